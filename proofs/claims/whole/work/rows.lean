section
-- ===== PART A: goes FIRST, ahead of the names: the tables' words, and 'selects' of the private methods out of them =====
/-- a private method of a class that the tables say can be made, by its rows of tables_1 -/
def lw_okq (q : MethodName × Nat) : Prop := (q.1.cls ≠ "java/lang/invoke/MethodHandle" ∧ q.1.cls ≠ "java/lang/invoke/VarHandle") ∧ Cond.instantiable q.1.cls q.2 ∈ tables_1 ∧ Cond.privateMethod q.1 ∈ tables_1 ∧ Cond.instanceMethod q.1 ∈ tables_1
theorem lw_p0 : lw_okq (⟨"TwoHalves$Text", "add", "(I)Z"⟩, 2) := ⟨⟨by decide +kernel, by decide +kernel⟩, List.mem_of_getElem? (i := 23) (by decide +kernel), List.mem_of_getElem? (i := 210) (by decide +kernel), List.mem_of_getElem? (i := 211) (by decide +kernel)⟩
theorem lw_p1 : lw_okq (⟨"TwoHalves$Text", "readInto", "(LTwoHalves$State;)I"⟩, 2) := ⟨⟨by decide +kernel, by decide +kernel⟩, List.mem_of_getElem? (i := 23) (by decide +kernel), List.mem_of_getElem? (i := 222) (by decide +kernel), List.mem_of_getElem? (i := 223) (by decide +kernel)⟩
theorem lw_p2 : lw_okq (⟨"TwoHalves$State", "renew", "()V"⟩, 8) := ⟨⟨by decide +kernel, by decide +kernel⟩, List.mem_of_getElem? (i := 38) (by decide +kernel), List.mem_of_getElem? (i := 226) (by decide +kernel), List.mem_of_getElem? (i := 227) (by decide +kernel)⟩
theorem lw_p3 : lw_okq (⟨"TwoHalves$State", "tellRows", "(I)Z"⟩, 8) := ⟨⟨by decide +kernel, by decide +kernel⟩, List.mem_of_getElem? (i := 38) (by decide +kernel), List.mem_of_getElem? (i := 236) (by decide +kernel), List.mem_of_getElem? (i := 237) (by decide +kernel)⟩
theorem lw_p4 : lw_okq (⟨"TwoHalves$State", "tellColumns", "(I)Z"⟩, 8) := ⟨⟨by decide +kernel, by decide +kernel⟩, List.mem_of_getElem? (i := 38) (by decide +kernel), List.mem_of_getElem? (i := 240) (by decide +kernel), List.mem_of_getElem? (i := 241) (by decide +kernel)⟩
theorem lw_p5 : lw_okq (⟨"TwoHalves$State", "hasRoom", "()Z"⟩, 8) := ⟨⟨by decide +kernel, by decide +kernel⟩, List.mem_of_getElem? (i := 38) (by decide +kernel), List.mem_of_getElem? (i := 244) (by decide +kernel), List.mem_of_getElem? (i := 245) (by decide +kernel)⟩
theorem lw_p6 : lw_okq (⟨"TwoHalves$State", "tellRow", "(I)Z"⟩, 8) := ⟨⟨by decide +kernel, by decide +kernel⟩, List.mem_of_getElem? (i := 38) (by decide +kernel), List.mem_of_getElem? (i := 248) (by decide +kernel), List.mem_of_getElem? (i := 249) (by decide +kernel)⟩
theorem lw_p7 : lw_okq (⟨"TwoHalves$State", "shadesInRow", "(I)I"⟩, 8) := ⟨⟨by decide +kernel, by decide +kernel⟩, List.mem_of_getElem? (i := 38) (by decide +kernel), List.mem_of_getElem? (i := 253) (by decide +kernel), List.mem_of_getElem? (i := 254) (by decide +kernel)⟩
theorem lw_p8 : lw_okq (⟨"TwoHalves$State", "tellColumn", "(I)Z"⟩, 8) := ⟨⟨by decide +kernel, by decide +kernel⟩, List.mem_of_getElem? (i := 38) (by decide +kernel), List.mem_of_getElem? (i := 257) (by decide +kernel), List.mem_of_getElem? (i := 258) (by decide +kernel)⟩
theorem lw_p9 : lw_okq (⟨"TwoHalves$State", "shadeIn", "(II)I"⟩, 8) := ⟨⟨by decide +kernel, by decide +kernel⟩, List.mem_of_getElem? (i := 38) (by decide +kernel), List.mem_of_getElem? (i := 261) (by decide +kernel), List.mem_of_getElem? (i := 262) (by decide +kernel)⟩
theorem lw_p10 : lw_okq (⟨"TwoHalves$State", "copy", "(LTwoHalves$State;)V"⟩, 8) := ⟨⟨by decide +kernel, by decide +kernel⟩, List.mem_of_getElem? (i := 38) (by decide +kernel), List.mem_of_getElem? (i := 269) (by decide +kernel), List.mem_of_getElem? (i := 270) (by decide +kernel)⟩
theorem lw_p11 : lw_okq (⟨"TwoHalves$Acts", "forgetAll", "()V"⟩, 3) := ⟨⟨by decide +kernel, by decide +kernel⟩, List.mem_of_getElem? (i := 83) (by decide +kernel), List.mem_of_getElem? (i := 276) (by decide +kernel), List.mem_of_getElem? (i := 277) (by decide +kernel)⟩
theorem lw_p12 : lw_okq (⟨"TwoHalves$Slots", "forgetAll", "()V"⟩, 2) := ⟨⟨by decide +kernel, by decide +kernel⟩, List.mem_of_getElem? (i := 103) (by decide +kernel), List.mem_of_getElem? (i := 280) (by decide +kernel), List.mem_of_getElem? (i := 281) (by decide +kernel)⟩
theorem lw_p13 : lw_okq (⟨"TwoHalves", "blankNow", "()I"⟩, 10) := ⟨⟨by decide +kernel, by decide +kernel⟩, List.mem_of_getElem? (i := 15) (by decide +kernel), List.mem_of_getElem? (i := 288) (by decide +kernel), List.mem_of_getElem? (i := 289) (by decide +kernel)⟩
theorem lw_p14 : lw_okq (⟨"TwoHalves$Outcome", "send", "(LTwoHalves$State;II)V"⟩, 3) := ⟨⟨by decide +kernel, by decide +kernel⟩, List.mem_of_getElem? (i := 154) (by decide +kernel), List.mem_of_getElem? (i := 292) (by decide +kernel), List.mem_of_getElem? (i := 293) (by decide +kernel)⟩
theorem lw_p15 : lw_okq (⟨"TwoHalves$Guesses", "take", "(LTwoHalves$State;)V"⟩, 4) := ⟨⟨by decide +kernel, by decide +kernel⟩, List.mem_of_getElem? (i := 135) (by decide +kernel), List.mem_of_getElem? (i := 296) (by decide +kernel), List.mem_of_getElem? (i := 297) (by decide +kernel)⟩
def lw_privs_1 : List (MethodName × Nat) := [(⟨"TwoHalves$Text", "add", "(I)Z"⟩, 2), (⟨"TwoHalves$Text", "readInto", "(LTwoHalves$State;)I"⟩, 2), (⟨"TwoHalves$State", "renew", "()V"⟩, 8), (⟨"TwoHalves$State", "tellRows", "(I)Z"⟩, 8), (⟨"TwoHalves$State", "tellColumns", "(I)Z"⟩, 8), (⟨"TwoHalves$State", "hasRoom", "()Z"⟩, 8), (⟨"TwoHalves$State", "tellRow", "(I)Z"⟩, 8), (⟨"TwoHalves$State", "shadesInRow", "(I)I"⟩, 8), (⟨"TwoHalves$State", "tellColumn", "(I)Z"⟩, 8), (⟨"TwoHalves$State", "shadeIn", "(II)I"⟩, 8), (⟨"TwoHalves$State", "copy", "(LTwoHalves$State;)V"⟩, 8), (⟨"TwoHalves$Acts", "forgetAll", "()V"⟩, 3), (⟨"TwoHalves$Slots", "forgetAll", "()V"⟩, 2), (⟨"TwoHalves", "blankNow", "()I"⟩, 10), (⟨"TwoHalves$Outcome", "send", "(LTwoHalves$State;II)V"⟩, 3), (⟨"TwoHalves$Guesses", "take", "(LTwoHalves$State;)V"⟩, 4)]
theorem lw_r1 : ∀ q ∈ lw_privs_1, lw_okq q := List.forall_mem_cons.mpr ⟨lw_p0, List.forall_mem_cons.mpr ⟨lw_p1, List.forall_mem_cons.mpr ⟨lw_p2, List.forall_mem_cons.mpr ⟨lw_p3, List.forall_mem_cons.mpr ⟨lw_p4, List.forall_mem_cons.mpr ⟨lw_p5, List.forall_mem_cons.mpr ⟨lw_p6, List.forall_mem_cons.mpr ⟨lw_p7, List.forall_mem_cons.mpr ⟨lw_p8, List.forall_mem_cons.mpr ⟨lw_p9, List.forall_mem_cons.mpr ⟨lw_p10, List.forall_mem_cons.mpr ⟨lw_p11, List.forall_mem_cons.mpr ⟨lw_p12, List.forall_mem_cons.mpr ⟨lw_p13, List.forall_mem_cons.mpr ⟨lw_p14, List.forall_mem_cons.mpr ⟨lw_p15, fun _ h => absurd h List.not_mem_nil⟩⟩⟩⟩⟩⟩⟩⟩⟩⟩⟩⟩⟩⟩⟩⟩
theorem lw_p16 : lw_okq (⟨"TwoHalves$Guesses", "count", "(II)V"⟩, 4) := ⟨⟨by decide +kernel, by decide +kernel⟩, List.mem_of_getElem? (i := 135) (by decide +kernel), List.mem_of_getElem? (i := 301) (by decide +kernel), List.mem_of_getElem? (i := 302) (by decide +kernel)⟩
theorem lw_p17 : lw_okq (⟨"TwoHalves$Guesses", "takeSides", "(LTwoHalves$State;)V"⟩, 4) := ⟨⟨by decide +kernel, by decide +kernel⟩, List.mem_of_getElem? (i := 135) (by decide +kernel), List.mem_of_getElem? (i := 308) (by decide +kernel), List.mem_of_getElem? (i := 309) (by decide +kernel)⟩
theorem lw_p18 : lw_okq (⟨"TwoHalves$Outcome", "fill", "(LTwoHalves$State;IZZ)V"⟩, 3) := ⟨⟨by decide +kernel, by decide +kernel⟩, List.mem_of_getElem? (i := 154) (by decide +kernel), List.mem_of_getElem? (i := 318) (by decide +kernel), List.mem_of_getElem? (i := 319) (by decide +kernel)⟩
theorem lw_p19 : lw_okq (⟨"TwoHalves$State", "hasShade", "(I)Z"⟩, 8) := ⟨⟨by decide +kernel, by decide +kernel⟩, List.mem_of_getElem? (i := 38) (by decide +kernel), List.mem_of_getElem? (i := 322) (by decide +kernel), List.mem_of_getElem? (i := 323) (by decide +kernel)⟩
theorem lw_p20 : lw_okq (⟨"TwoHalves$Guesses", "of", "(II)I"⟩, 4) := ⟨⟨by decide +kernel, by decide +kernel⟩, List.mem_of_getElem? (i := 135) (by decide +kernel), List.mem_of_getElem? (i := 326) (by decide +kernel), List.mem_of_getElem? (i := 327) (by decide +kernel)⟩
theorem lw_p21 : lw_okq (⟨"TwoHalves$Outcome", "isBlank", "(I)Z"⟩, 3) := ⟨⟨by decide +kernel, by decide +kernel⟩, List.mem_of_getElem? (i := 154) (by decide +kernel), List.mem_of_getElem? (i := 330) (by decide +kernel), List.mem_of_getElem? (i := 331) (by decide +kernel)⟩
theorem lw_p22 : lw_okq (⟨"TwoHalves$Outcome", "fillBlank", "(I)V"⟩, 3) := ⟨⟨by decide +kernel, by decide +kernel⟩, List.mem_of_getElem? (i := 154) (by decide +kernel), List.mem_of_getElem? (i := 334) (by decide +kernel), List.mem_of_getElem? (i := 335) (by decide +kernel)⟩
theorem lw_p23 : lw_okq (⟨"TwoHalves$Outcome", "between", "(III)I"⟩, 3) := ⟨⟨by decide +kernel, by decide +kernel⟩, List.mem_of_getElem? (i := 154) (by decide +kernel), List.mem_of_getElem? (i := 338) (by decide +kernel), List.mem_of_getElem? (i := 339) (by decide +kernel)⟩
theorem lw_p24 : lw_okq (⟨"TwoHalves$Outcome", "missBy", "(LTwoHalves$State;II)I"⟩, 3) := ⟨⟨by decide +kernel, by decide +kernel⟩, List.mem_of_getElem? (i := 154) (by decide +kernel), List.mem_of_getElem? (i := 342) (by decide +kernel), List.mem_of_getElem? (i := 343) (by decide +kernel)⟩
theorem lw_p25 : lw_okq (⟨"TwoHalves", "sideOf", "(I)I"⟩, 10) := ⟨⟨by decide +kernel, by decide +kernel⟩, List.mem_of_getElem? (i := 15) (by decide +kernel), List.mem_of_getElem? (i := 348) (by decide +kernel), List.mem_of_getElem? (i := 349) (by decide +kernel)⟩
theorem lw_p26 : lw_okq (⟨"TwoHalves$Guesses", "side", "(I)I"⟩, 4) := ⟨⟨by decide +kernel, by decide +kernel⟩, List.mem_of_getElem? (i := 135) (by decide +kernel), List.mem_of_getElem? (i := 353) (by decide +kernel), List.mem_of_getElem? (i := 354) (by decide +kernel)⟩
theorem lw_p27 : lw_okq (⟨"TwoHalves", "bestChange", "()I"⟩, 10) := ⟨⟨by decide +kernel, by decide +kernel⟩, List.mem_of_getElem? (i := 15) (by decide +kernel), List.mem_of_getElem? (i := 357) (by decide +kernel), List.mem_of_getElem? (i := 358) (by decide +kernel)⟩
theorem lw_p28 : lw_okq (⟨"TwoHalves", "bothSides", "(LTwoHalves$State;)I"⟩, 10) := ⟨⟨by decide +kernel, by decide +kernel⟩, List.mem_of_getElem? (i := 15) (by decide +kernel), List.mem_of_getElem? (i := 361) (by decide +kernel), List.mem_of_getElem? (i := 362) (by decide +kernel)⟩
theorem lw_p29 : lw_okq (⟨"TwoHalves$State", "swap", "(II)V"⟩, 8) := ⟨⟨by decide +kernel, by decide +kernel⟩, List.mem_of_getElem? (i := 38) (by decide +kernel), List.mem_of_getElem? (i := 365) (by decide +kernel), List.mem_of_getElem? (i := 366) (by decide +kernel)⟩
theorem lw_p30 : lw_okq (⟨"TwoHalves$State", "put", "(III)V"⟩, 8) := ⟨⟨by decide +kernel, by decide +kernel⟩, List.mem_of_getElem? (i := 38) (by decide +kernel), List.mem_of_getElem? (i := 370) (by decide +kernel), List.mem_of_getElem? (i := 371) (by decide +kernel)⟩
theorem lw_p31 : lw_okq (⟨"TwoHalves", "bestShift", "()I"⟩, 10) := ⟨⟨by decide +kernel, by decide +kernel⟩, List.mem_of_getElem? (i := 15) (by decide +kernel), List.mem_of_getElem? (i := 374) (by decide +kernel), List.mem_of_getElem? (i := 375) (by decide +kernel)⟩
def lw_privs_2 : List (MethodName × Nat) := [(⟨"TwoHalves$Guesses", "count", "(II)V"⟩, 4), (⟨"TwoHalves$Guesses", "takeSides", "(LTwoHalves$State;)V"⟩, 4), (⟨"TwoHalves$Outcome", "fill", "(LTwoHalves$State;IZZ)V"⟩, 3), (⟨"TwoHalves$State", "hasShade", "(I)Z"⟩, 8), (⟨"TwoHalves$Guesses", "of", "(II)I"⟩, 4), (⟨"TwoHalves$Outcome", "isBlank", "(I)Z"⟩, 3), (⟨"TwoHalves$Outcome", "fillBlank", "(I)V"⟩, 3), (⟨"TwoHalves$Outcome", "between", "(III)I"⟩, 3), (⟨"TwoHalves$Outcome", "missBy", "(LTwoHalves$State;II)I"⟩, 3), (⟨"TwoHalves", "sideOf", "(I)I"⟩, 10), (⟨"TwoHalves$Guesses", "side", "(I)I"⟩, 4), (⟨"TwoHalves", "bestChange", "()I"⟩, 10), (⟨"TwoHalves", "bothSides", "(LTwoHalves$State;)I"⟩, 10), (⟨"TwoHalves$State", "swap", "(II)V"⟩, 8), (⟨"TwoHalves$State", "put", "(III)V"⟩, 8), (⟨"TwoHalves", "bestShift", "()I"⟩, 10)]
theorem lw_r2 : ∀ q ∈ lw_privs_2, lw_okq q := List.forall_mem_cons.mpr ⟨lw_p16, List.forall_mem_cons.mpr ⟨lw_p17, List.forall_mem_cons.mpr ⟨lw_p18, List.forall_mem_cons.mpr ⟨lw_p19, List.forall_mem_cons.mpr ⟨lw_p20, List.forall_mem_cons.mpr ⟨lw_p21, List.forall_mem_cons.mpr ⟨lw_p22, List.forall_mem_cons.mpr ⟨lw_p23, List.forall_mem_cons.mpr ⟨lw_p24, List.forall_mem_cons.mpr ⟨lw_p25, List.forall_mem_cons.mpr ⟨lw_p26, List.forall_mem_cons.mpr ⟨lw_p27, List.forall_mem_cons.mpr ⟨lw_p28, List.forall_mem_cons.mpr ⟨lw_p29, List.forall_mem_cons.mpr ⟨lw_p30, List.forall_mem_cons.mpr ⟨lw_p31, fun _ h => absurd h List.not_mem_nil⟩⟩⟩⟩⟩⟩⟩⟩⟩⟩⟩⟩⟩⟩⟩⟩
theorem lw_p32 : lw_okq (⟨"TwoHalves", "greatestMiss", "(I)I"⟩, 10) := ⟨⟨by decide +kernel, by decide +kernel⟩, List.mem_of_getElem? (i := 15) (by decide +kernel), List.mem_of_getElem? (i := 378) (by decide +kernel), List.mem_of_getElem? (i := 379) (by decide +kernel)⟩
theorem lw_p33 : lw_okq (⟨"TwoHalves", "band", "()I"⟩, 10) := ⟨⟨by decide +kernel, by decide +kernel⟩, List.mem_of_getElem? (i := 15) (by decide +kernel), List.mem_of_getElem? (i := 385) (by decide +kernel), List.mem_of_getElem? (i := 386) (by decide +kernel)⟩
theorem lw_p34 : lw_okq (⟨"TwoHalves$State", "cellsWithin", "(I)I"⟩, 8) := ⟨⟨by decide +kernel, by decide +kernel⟩, List.mem_of_getElem? (i := 38) (by decide +kernel), List.mem_of_getElem? (i := 389) (by decide +kernel), List.mem_of_getElem? (i := 390) (by decide +kernel)⟩
theorem lw_p35 : lw_okq (⟨"TwoHalves$State", "timesPainted", "(I)I"⟩, 8) := ⟨⟨by decide +kernel, by decide +kernel⟩, List.mem_of_getElem? (i := 38) (by decide +kernel), List.mem_of_getElem? (i := 401) (by decide +kernel), List.mem_of_getElem? (i := 402) (by decide +kernel)⟩
theorem lw_p36 : lw_okq (⟨"TwoHalves$State", "hasCell", "(II)Z"⟩, 8) := ⟨⟨by decide +kernel, by decide +kernel⟩, List.mem_of_getElem? (i := 38) (by decide +kernel), List.mem_of_getElem? (i := 409) (by decide +kernel), List.mem_of_getElem? (i := 410) (by decide +kernel)⟩
theorem lw_p37 : lw_okq (⟨"TwoHalves$State", "numbersOf", "(I)I"⟩, 8) := ⟨⟨by decide +kernel, by decide +kernel⟩, List.mem_of_getElem? (i := 38) (by decide +kernel), List.mem_of_getElem? (i := 418) (by decide +kernel), List.mem_of_getElem? (i := 419) (by decide +kernel)⟩
theorem lw_p38 : lw_okq (⟨"TwoHalves$Acts", "remember", "(LTwoHalves$State;)V"⟩, 3) := ⟨⟨by decide +kernel, by decide +kernel⟩, List.mem_of_getElem? (i := 83) (by decide +kernel), List.mem_of_getElem? (i := 434) (by decide +kernel), List.mem_of_getElem? (i := 435) (by decide +kernel)⟩
theorem lw_p39 : lw_okq (⟨"TwoHalves$State", "layWithin", "(I)V"⟩, 8) := ⟨⟨by decide +kernel, by decide +kernel⟩, List.mem_of_getElem? (i := 38) (by decide +kernel), List.mem_of_getElem? (i := 448) (by decide +kernel), List.mem_of_getElem? (i := 449) (by decide +kernel)⟩
theorem lw_p40 : lw_okq (⟨"TwoHalves$State", "loseOrFind", "(I)V"⟩, 8) := ⟨⟨by decide +kernel, by decide +kernel⟩, List.mem_of_getElem? (i := 38) (by decide +kernel), List.mem_of_getElem? (i := 471) (by decide +kernel), List.mem_of_getElem? (i := 472) (by decide +kernel)⟩
theorem lw_p41 : lw_okq (⟨"TwoHalves$Acts", "takeBackInto", "(LTwoHalves$State;)Z"⟩, 3) := ⟨⟨by decide +kernel, by decide +kernel⟩, List.mem_of_getElem? (i := 83) (by decide +kernel), List.mem_of_getElem? (i := 479) (by decide +kernel), List.mem_of_getElem? (i := 480) (by decide +kernel)⟩
theorem lw_p42 : lw_okq (⟨"TwoHalves", "goesWell", "(III)Z"⟩, 10) := ⟨⟨by decide +kernel, by decide +kernel⟩, List.mem_of_getElem? (i := 15) (by decide +kernel), List.mem_of_getElem? (i := 494) (by decide +kernel), List.mem_of_getElem? (i := 495) (by decide +kernel)⟩
theorem lw_p43 : lw_okq (⟨"TwoHalves", "triedPack", "(I)Z"⟩, 10) := ⟨⟨by decide +kernel, by decide +kernel⟩, List.mem_of_getElem? (i := 15) (by decide +kernel), List.mem_of_getElem? (i := 498) (by decide +kernel), List.mem_of_getElem? (i := 499) (by decide +kernel)⟩
theorem lw_p44 : lw_okq (⟨"TwoHalves", "triedShift", "(I)Z"⟩, 10) := ⟨⟨by decide +kernel, by decide +kernel⟩, List.mem_of_getElem? (i := 15) (by decide +kernel), List.mem_of_getElem? (i := 502) (by decide +kernel), List.mem_of_getElem? (i := 503) (by decide +kernel)⟩
theorem lw_p45 : lw_okq (⟨"TwoHalves", "comesOutRight", "(I)Z"⟩, 10) := ⟨⟨by decide +kernel, by decide +kernel⟩, List.mem_of_getElem? (i := 15) (by decide +kernel), List.mem_of_getElem? (i := 506) (by decide +kernel), List.mem_of_getElem? (i := 507) (by decide +kernel)⟩
theorem lw_p46 : lw_okq (⟨"TwoHalves", "comesOutBlank", "(I)Z"⟩, 10) := ⟨⟨by decide +kernel, by decide +kernel⟩, List.mem_of_getElem? (i := 15) (by decide +kernel), List.mem_of_getElem? (i := 510) (by decide +kernel), List.mem_of_getElem? (i := 511) (by decide +kernel)⟩
theorem lw_p47 : lw_okq (⟨"TwoHalves", "triedChange", "(II)Z"⟩, 10) := ⟨⟨by decide +kernel, by decide +kernel⟩, List.mem_of_getElem? (i := 15) (by decide +kernel), List.mem_of_getElem? (i := 514) (by decide +kernel), List.mem_of_getElem? (i := 515) (by decide +kernel)⟩
def lw_privs_3 : List (MethodName × Nat) := [(⟨"TwoHalves", "greatestMiss", "(I)I"⟩, 10), (⟨"TwoHalves", "band", "()I"⟩, 10), (⟨"TwoHalves$State", "cellsWithin", "(I)I"⟩, 8), (⟨"TwoHalves$State", "timesPainted", "(I)I"⟩, 8), (⟨"TwoHalves$State", "hasCell", "(II)Z"⟩, 8), (⟨"TwoHalves$State", "numbersOf", "(I)I"⟩, 8), (⟨"TwoHalves$Acts", "remember", "(LTwoHalves$State;)V"⟩, 3), (⟨"TwoHalves$State", "layWithin", "(I)V"⟩, 8), (⟨"TwoHalves$State", "loseOrFind", "(I)V"⟩, 8), (⟨"TwoHalves$Acts", "takeBackInto", "(LTwoHalves$State;)Z"⟩, 3), (⟨"TwoHalves", "goesWell", "(III)Z"⟩, 10), (⟨"TwoHalves", "triedPack", "(I)Z"⟩, 10), (⟨"TwoHalves", "triedShift", "(I)Z"⟩, 10), (⟨"TwoHalves", "comesOutRight", "(I)Z"⟩, 10), (⟨"TwoHalves", "comesOutBlank", "(I)Z"⟩, 10), (⟨"TwoHalves", "triedChange", "(II)Z"⟩, 10)]
theorem lw_r3 : ∀ q ∈ lw_privs_3, lw_okq q := List.forall_mem_cons.mpr ⟨lw_p32, List.forall_mem_cons.mpr ⟨lw_p33, List.forall_mem_cons.mpr ⟨lw_p34, List.forall_mem_cons.mpr ⟨lw_p35, List.forall_mem_cons.mpr ⟨lw_p36, List.forall_mem_cons.mpr ⟨lw_p37, List.forall_mem_cons.mpr ⟨lw_p38, List.forall_mem_cons.mpr ⟨lw_p39, List.forall_mem_cons.mpr ⟨lw_p40, List.forall_mem_cons.mpr ⟨lw_p41, List.forall_mem_cons.mpr ⟨lw_p42, List.forall_mem_cons.mpr ⟨lw_p43, List.forall_mem_cons.mpr ⟨lw_p44, List.forall_mem_cons.mpr ⟨lw_p45, List.forall_mem_cons.mpr ⟨lw_p46, List.forall_mem_cons.mpr ⟨lw_p47, fun _ h => absurd h List.not_mem_nil⟩⟩⟩⟩⟩⟩⟩⟩⟩⟩⟩⟩⟩⟩⟩⟩
theorem lw_p48 : lw_okq (⟨"TwoHalves$Seen", "add", "(II)Z"⟩, 3) := ⟨⟨by decide +kernel, by decide +kernel⟩, List.mem_of_getElem? (i := 118) (by decide +kernel), List.mem_of_getElem? (i := 522) (by decide +kernel), List.mem_of_getElem? (i := 523) (by decide +kernel)⟩
theorem lw_p49 : lw_okq (⟨"TwoHalves$Seen", "isSo", "(LTwoHalves$Outcome;)Z"⟩, 3) := ⟨⟨by decide +kernel, by decide +kernel⟩, List.mem_of_getElem? (i := 118) (by decide +kernel), List.mem_of_getElem? (i := 534) (by decide +kernel), List.mem_of_getElem? (i := 535) (by decide +kernel)⟩
theorem lw_p50 : lw_okq (⟨"TwoHalves", "tellMisses", "()V"⟩, 10) := ⟨⟨by decide +kernel, by decide +kernel⟩, List.mem_of_getElem? (i := 15) (by decide +kernel), List.mem_of_getElem? (i := 542) (by decide +kernel), List.mem_of_getElem? (i := 543) (by decide +kernel)⟩
theorem lw_p51 : lw_okq (⟨"TwoHalves$State", "paintBy", "(I)V"⟩, 8) := ⟨⟨by decide +kernel, by decide +kernel⟩, List.mem_of_getElem? (i := 38) (by decide +kernel), List.mem_of_getElem? (i := 585) (by decide +kernel), List.mem_of_getElem? (i := 586) (by decide +kernel)⟩
theorem lw_p52 : lw_okq (⟨"TwoHalves$Slots", "put", "(ILTwoHalves$State;)V"⟩, 2) := ⟨⟨by decide +kernel, by decide +kernel⟩, List.mem_of_getElem? (i := 103) (by decide +kernel), List.mem_of_getElem? (i := 596) (by decide +kernel), List.mem_of_getElem? (i := 597) (by decide +kernel)⟩
theorem lw_p53 : lw_okq (⟨"TwoHalves$Slots", "takeInto", "(ILTwoHalves$State;)Z"⟩, 2) := ⟨⟨by decide +kernel, by decide +kernel⟩, List.mem_of_getElem? (i := 103) (by decide +kernel), List.mem_of_getElem? (i := 605) (by decide +kernel), List.mem_of_getElem? (i := 606) (by decide +kernel)⟩
theorem lw_p54 : lw_okq (⟨"TwoHalvesModel", "readText", "()I"⟩, 25) := ⟨⟨by decide +kernel, by decide +kernel⟩, List.mem_of_getElem? (i := 609) (by decide +kernel), List.mem_of_getElem? (i := 708) (by decide +kernel), List.mem_of_getElem? (i := 709) (by decide +kernel)⟩
theorem lw_p55 : lw_okq (⟨"TwoHalvesModel", "take", "(I)Z"⟩, 25) := ⟨⟨by decide +kernel, by decide +kernel⟩, List.mem_of_getElem? (i := 609) (by decide +kernel), List.mem_of_getElem? (i := 712) (by decide +kernel), List.mem_of_getElem? (i := 713) (by decide +kernel)⟩
theorem lw_p56 : lw_okq (⟨"TwoHalvesModel", "hasRoomAsRead", "(I)Z"⟩, 25) := ⟨⟨by decide +kernel, by decide +kernel⟩, List.mem_of_getElem? (i := 609) (by decide +kernel), List.mem_of_getElem? (i := 717) (by decide +kernel), List.mem_of_getElem? (i := 718) (by decide +kernel)⟩
theorem lw_p57 : lw_okq (⟨"TwoHalvesModel", "isEmptyAsRead", "(I)Z"⟩, 25) := ⟨⟨by decide +kernel, by decide +kernel⟩, List.mem_of_getElem? (i := 609) (by decide +kernel), List.mem_of_getElem? (i := 721) (by decide +kernel), List.mem_of_getElem? (i := 722) (by decide +kernel)⟩
theorem lw_p58 : lw_okq (⟨"TwoHalvesModel", "blanks", "()I"⟩, 25) := ⟨⟨by decide +kernel, by decide +kernel⟩, List.mem_of_getElem? (i := 609) (by decide +kernel), List.mem_of_getElem? (i := 733) (by decide +kernel), List.mem_of_getElem? (i := 734) (by decide +kernel)⟩
theorem lw_p59 : lw_okq (⟨"TwoHalvesModel", "layOut", "([II)V"⟩, 25) := ⟨⟨by decide +kernel, by decide +kernel⟩, List.mem_of_getElem? (i := 609) (by decide +kernel), List.mem_of_getElem? (i := 737) (by decide +kernel), List.mem_of_getElem? (i := 738) (by decide +kernel)⟩
theorem lw_p60 : lw_okq (⟨"TwoHalvesModel", "comes", "([IIIZZ)I"⟩, 25) := ⟨⟨by decide +kernel, by decide +kernel⟩, List.mem_of_getElem? (i := 609) (by decide +kernel), List.mem_of_getElem? (i := 744) (by decide +kernel), List.mem_of_getElem? (i := 745) (by decide +kernel)⟩
theorem lw_p61 : lw_okq (⟨"TwoHalvesModel", "guessOf", "([III)I"⟩, 25) := ⟨⟨by decide +kernel, by decide +kernel⟩, List.mem_of_getElem? (i := 609) (by decide +kernel), List.mem_of_getElem? (i := 751) (by decide +kernel), List.mem_of_getElem? (i := 752) (by decide +kernel)⟩
theorem lw_p62 : lw_okq (⟨"TwoHalvesModel", "fill", "(I)V"⟩, 25) := ⟨⟨by decide +kernel, by decide +kernel⟩, List.mem_of_getElem? (i := 609) (by decide +kernel), List.mem_of_getElem? (i := 755) (by decide +kernel), List.mem_of_getElem? (i := 756) (by decide +kernel)⟩
theorem lw_p63 : lw_okq (⟨"TwoHalvesModel", "missBy", "([II)I"⟩, 25) := ⟨⟨by decide +kernel, by decide +kernel⟩, List.mem_of_getElem? (i := 609) (by decide +kernel), List.mem_of_getElem? (i := 759) (by decide +kernel), List.mem_of_getElem? (i := 760) (by decide +kernel)⟩
def lw_privs_4 : List (MethodName × Nat) := [(⟨"TwoHalves$Seen", "add", "(II)Z"⟩, 3), (⟨"TwoHalves$Seen", "isSo", "(LTwoHalves$Outcome;)Z"⟩, 3), (⟨"TwoHalves", "tellMisses", "()V"⟩, 10), (⟨"TwoHalves$State", "paintBy", "(I)V"⟩, 8), (⟨"TwoHalves$Slots", "put", "(ILTwoHalves$State;)V"⟩, 2), (⟨"TwoHalves$Slots", "takeInto", "(ILTwoHalves$State;)Z"⟩, 2), (⟨"TwoHalvesModel", "readText", "()I"⟩, 25), (⟨"TwoHalvesModel", "take", "(I)Z"⟩, 25), (⟨"TwoHalvesModel", "hasRoomAsRead", "(I)Z"⟩, 25), (⟨"TwoHalvesModel", "isEmptyAsRead", "(I)Z"⟩, 25), (⟨"TwoHalvesModel", "blanks", "()I"⟩, 25), (⟨"TwoHalvesModel", "layOut", "([II)V"⟩, 25), (⟨"TwoHalvesModel", "comes", "([IIIZZ)I"⟩, 25), (⟨"TwoHalvesModel", "guessOf", "([III)I"⟩, 25), (⟨"TwoHalvesModel", "fill", "(I)V"⟩, 25), (⟨"TwoHalvesModel", "missBy", "([II)I"⟩, 25)]
theorem lw_r4 : ∀ q ∈ lw_privs_4, lw_okq q := List.forall_mem_cons.mpr ⟨lw_p48, List.forall_mem_cons.mpr ⟨lw_p49, List.forall_mem_cons.mpr ⟨lw_p50, List.forall_mem_cons.mpr ⟨lw_p51, List.forall_mem_cons.mpr ⟨lw_p52, List.forall_mem_cons.mpr ⟨lw_p53, List.forall_mem_cons.mpr ⟨lw_p54, List.forall_mem_cons.mpr ⟨lw_p55, List.forall_mem_cons.mpr ⟨lw_p56, List.forall_mem_cons.mpr ⟨lw_p57, List.forall_mem_cons.mpr ⟨lw_p58, List.forall_mem_cons.mpr ⟨lw_p59, List.forall_mem_cons.mpr ⟨lw_p60, List.forall_mem_cons.mpr ⟨lw_p61, List.forall_mem_cons.mpr ⟨lw_p62, List.forall_mem_cons.mpr ⟨lw_p63, fun _ h => absurd h List.not_mem_nil⟩⟩⟩⟩⟩⟩⟩⟩⟩⟩⟩⟩⟩⟩⟩⟩
theorem lw_p64 : lw_okq (⟨"TwoHalvesModel", "sideOf", "([II)I"⟩, 25) := ⟨⟨by decide +kernel, by decide +kernel⟩, List.mem_of_getElem? (i := 609) (by decide +kernel), List.mem_of_getElem? (i := 763) (by decide +kernel), List.mem_of_getElem? (i := 764) (by decide +kernel)⟩
theorem lw_p65 : lw_okq (⟨"TwoHalvesModel", "bestChange", "()I"⟩, 25) := ⟨⟨by decide +kernel, by decide +kernel⟩, List.mem_of_getElem? (i := 609) (by decide +kernel), List.mem_of_getElem? (i := 767) (by decide +kernel), List.mem_of_getElem? (i := 768) (by decide +kernel)⟩
theorem lw_p66 : lw_okq (⟨"TwoHalvesModel", "sides", "([I)I"⟩, 25) := ⟨⟨by decide +kernel, by decide +kernel⟩, List.mem_of_getElem? (i := 609) (by decide +kernel), List.mem_of_getElem? (i := 771) (by decide +kernel), List.mem_of_getElem? (i := 772) (by decide +kernel)⟩
theorem lw_p67 : lw_okq (⟨"TwoHalvesModel", "bestShift", "()I"⟩, 25) := ⟨⟨by decide +kernel, by decide +kernel⟩, List.mem_of_getElem? (i := 609) (by decide +kernel), List.mem_of_getElem? (i := 781) (by decide +kernel), List.mem_of_getElem? (i := 782) (by decide +kernel)⟩
theorem lw_p68 : lw_okq (⟨"TwoHalvesModel", "band", "()I"⟩, 25) := ⟨⟨by decide +kernel, by decide +kernel⟩, List.mem_of_getElem? (i := 609) (by decide +kernel), List.mem_of_getElem? (i := 785) (by decide +kernel), List.mem_of_getElem? (i := 786) (by decide +kernel)⟩
theorem lw_p69 : lw_okq (⟨"TwoHalvesModel", "layOn", "([II)Z"⟩, 25) := ⟨⟨by decide +kernel, by decide +kernel⟩, List.mem_of_getElem? (i := 609) (by decide +kernel), List.mem_of_getElem? (i := 789) (by decide +kernel), List.mem_of_getElem? (i := 790) (by decide +kernel)⟩
theorem lw_p70 : lw_okq (⟨"TwoHalvesModel", "isShade", "(I)Z"⟩, 25) := ⟨⟨by decide +kernel, by decide +kernel⟩, List.mem_of_getElem? (i := 609) (by decide +kernel), List.mem_of_getElem? (i := 797) (by decide +kernel), List.mem_of_getElem? (i := 798) (by decide +kernel)⟩
theorem lw_p71 : lw_okq (⟨"TwoHalvesModel", "howOften", "(I)I"⟩, 25) := ⟨⟨by decide +kernel, by decide +kernel⟩, List.mem_of_getElem? (i := 609) (by decide +kernel), List.mem_of_getElem? (i := 801) (by decide +kernel), List.mem_of_getElem? (i := 802) (by decide +kernel)⟩
theorem lw_p72 : lw_okq (⟨"TwoHalvesModel", "isCell", "(II)Z"⟩, 25) := ⟨⟨by decide +kernel, by decide +kernel⟩, List.mem_of_getElem? (i := 609) (by decide +kernel), List.mem_of_getElem? (i := 809) (by decide +kernel), List.mem_of_getElem? (i := 810) (by decide +kernel)⟩
theorem lw_p73 : lw_okq (⟨"TwoHalvesModel", "shadeAt", "(I)I"⟩, 25) := ⟨⟨by decide +kernel, by decide +kernel⟩, List.mem_of_getElem? (i := 609) (by decide +kernel), List.mem_of_getElem? (i := 813) (by decide +kernel), List.mem_of_getElem? (i := 814) (by decide +kernel)⟩
theorem lw_p74 : lw_okq (⟨"TwoHalvesModel", "note", "()V"⟩, 25) := ⟨⟨by decide +kernel, by decide +kernel⟩, List.mem_of_getElem? (i := 609) (by decide +kernel), List.mem_of_getElem? (i := 833) (by decide +kernel), List.mem_of_getElem? (i := 834) (by decide +kernel)⟩
theorem lw_p75 : lw_okq (⟨"TwoHalvesModel", "judged", "(III)Z"⟩, 25) := ⟨⟨by decide +kernel, by decide +kernel⟩, List.mem_of_getElem? (i := 609) (by decide +kernel), List.mem_of_getElem? (i := 876) (by decide +kernel), List.mem_of_getElem? (i := 877) (by decide +kernel)⟩
def lw_privs_5 : List (MethodName × Nat) := [(⟨"TwoHalvesModel", "sideOf", "([II)I"⟩, 25), (⟨"TwoHalvesModel", "bestChange", "()I"⟩, 25), (⟨"TwoHalvesModel", "sides", "([I)I"⟩, 25), (⟨"TwoHalvesModel", "bestShift", "()I"⟩, 25), (⟨"TwoHalvesModel", "band", "()I"⟩, 25), (⟨"TwoHalvesModel", "layOn", "([II)Z"⟩, 25), (⟨"TwoHalvesModel", "isShade", "(I)Z"⟩, 25), (⟨"TwoHalvesModel", "howOften", "(I)I"⟩, 25), (⟨"TwoHalvesModel", "isCell", "(II)Z"⟩, 25), (⟨"TwoHalvesModel", "shadeAt", "(I)I"⟩, 25), (⟨"TwoHalvesModel", "note", "()V"⟩, 25), (⟨"TwoHalvesModel", "judged", "(III)Z"⟩, 25)]
theorem lw_r5 : ∀ q ∈ lw_privs_5, lw_okq q := List.forall_mem_cons.mpr ⟨lw_p64, List.forall_mem_cons.mpr ⟨lw_p65, List.forall_mem_cons.mpr ⟨lw_p66, List.forall_mem_cons.mpr ⟨lw_p67, List.forall_mem_cons.mpr ⟨lw_p68, List.forall_mem_cons.mpr ⟨lw_p69, List.forall_mem_cons.mpr ⟨lw_p70, List.forall_mem_cons.mpr ⟨lw_p71, List.forall_mem_cons.mpr ⟨lw_p72, List.forall_mem_cons.mpr ⟨lw_p73, List.forall_mem_cons.mpr ⟨lw_p74, List.forall_mem_cons.mpr ⟨lw_p75, fun _ h => absurd h List.not_mem_nil⟩⟩⟩⟩⟩⟩⟩⟩⟩⟩⟩⟩
def lw_privs : List (MethodName × Nat) := lw_privs_1 ++ (lw_privs_2 ++ (lw_privs_3 ++ (lw_privs_4 ++ (lw_privs_5))))
def lw_tbl : List Cond := k2_sels lw_privs ++ tables_1
theorem lw_privs_ok : ∀ q ∈ lw_privs, lw_okq q := by
  show ∀ q ∈ lw_privs_1 ++ (lw_privs_2 ++ (lw_privs_3 ++ (lw_privs_4 ++ (lw_privs_5)))), lw_okq q
  exact List.forall_mem_append.mpr ⟨lw_r1, List.forall_mem_append.mpr ⟨lw_r2, List.forall_mem_append.mpr ⟨lw_r3, List.forall_mem_append.mpr ⟨lw_r4, lw_r5⟩⟩⟩⟩
-- ===== end of PART A; then your names; then what follows =====
end
section
/-- a method: its name, its bytes, its locals, what it answers, its class -/
abbrev Mth : Type := MethodName × ByteArray × Nat × Option FieldType × String
def RX0 : String := "TwoHalves$Acts"
def TX0 : u_T := fun k => match k with
  | 0 => ("TwoHalves$Acts", "ahead", "[LTwoHalves$State;", true)
  | 1 => ("TwoHalves$Acts", "first", "I", false)
  | _ => ("TwoHalves$Acts", "size", "I", false)
def tyX0 : Nat → FieldType := fun k => match k with
  | 0 => .array (.object "TwoHalves$State")
  | 1 => .int
  | _ => .int
theorem nmX0 : ∀ a, a < 3 → ∀ b, b < 3 → a ≠ b → (TX0 a).2.1 ≠ (TX0 b).2.1 := by decide +kernel
theorem tyX0_ok : ∀ k, k < 3 → parseFieldDescriptor (TX0 k).2.2.1 = some (tyX0 k) := by decide +kernel
abbrev cX0_init : ByteArray := prog_2_method_1_code
def yX0_init : MethodName := ⟨RX0, "<init>", "()V"⟩
abbrev cX0_remember : ByteArray := prog_2_method_2_code
def yX0_remember : MethodName := ⟨RX0, "remember", "(LTwoHalves$State;)V"⟩
abbrev cX0_takeBackInto : ByteArray := prog_2_method_3_code
def yX0_takeBackInto : MethodName := ⟨RX0, "takeBackInto", "(LTwoHalves$State;)Z"⟩
abbrev cX0_forgetAll : ByteArray := prog_2_method_4_code
def yX0_forgetAll : MethodName := ⟨RX0, "forgetAll", "()V"⟩
def RX1 : String := "TwoHalves$Guesses"
def TX1 : u_T := fun k => match k with
  | 0 => ("TwoHalves$Guesses", "counts", "[I", true)
  | 1 => ("TwoHalves$Guesses", "sums", "[I", true)
  | 2 => ("TwoHalves$Guesses", "best", "[I", true)
  | _ => ("TwoHalves$Guesses", "sides", "[I", true)
def tyX1 : Nat → FieldType := fun k => match k with
  | 0 => .array .int
  | 1 => .array .int
  | 2 => .array .int
  | _ => .array .int
theorem nmX1 : ∀ a, a < 4 → ∀ b, b < 4 → a ≠ b → (TX1 a).2.1 ≠ (TX1 b).2.1 := by decide +kernel
theorem tyX1_ok : ∀ k, k < 4 → parseFieldDescriptor (TX1 k).2.2.1 = some (tyX1 k) := by decide +kernel
abbrev cX1_init : ByteArray := prog_3_method_1_code
def yX1_init : MethodName := ⟨RX1, "<init>", "()V"⟩
abbrev cX1_take : ByteArray := prog_3_method_2_code
def yX1_take : MethodName := ⟨RX1, "take", "(LTwoHalves$State;)V"⟩
abbrev cX1_count : ByteArray := prog_3_method_3_code
def yX1_count : MethodName := ⟨RX1, "count", "(II)V"⟩
abbrev cX1_nearest : ByteArray := prog_3_method_4_code
def yX1_nearest : MethodName := ⟨RX1, "nearest", "(II)I"⟩
abbrev cX1_takeSides : ByteArray := prog_3_method_5_code
def yX1_takeSides : MethodName := ⟨RX1, "takeSides", "(LTwoHalves$State;)V"⟩
abbrev cX1_of : ByteArray := prog_3_method_6_code
def yX1_of : MethodName := ⟨RX1, "of", "(II)I"⟩
abbrev cX1_side : ByteArray := prog_3_method_7_code
def yX1_side : MethodName := ⟨RX1, "side", "(I)I"⟩
def RX2 : String := "TwoHalves$Outcome"
def TX2 : u_T := fun k => match k with
  | 0 => ("TwoHalves$Outcome", "guesses", "LTwoHalves$Guesses;", true)
  | 1 => ("TwoHalves$Outcome", "dots", "[I", true)
  | _ => ("TwoHalves$Outcome", "blank", "I", false)
def tyX2 : Nat → FieldType := fun k => match k with
  | 0 => .object "TwoHalves$Guesses"
  | 1 => .array .int
  | _ => .int
theorem nmX2 : ∀ a, a < 3 → ∀ b, b < 3 → a ≠ b → (TX2 a).2.1 ≠ (TX2 b).2.1 := by decide +kernel
theorem tyX2_ok : ∀ k, k < 3 → parseFieldDescriptor (TX2 k).2.2.1 = some (tyX2 k) := by decide +kernel
abbrev cX2_init : ByteArray := prog_4_method_1_code
def yX2_init : MethodName := ⟨RX2, "<init>", "()V"⟩
abbrev cX2_missBy : ByteArray := prog_4_method_2_code
def yX2_missBy : MethodName := ⟨RX2, "missBy", "(LTwoHalves$State;II)I"⟩
abbrev cX2_send : ByteArray := prog_4_method_3_code
def yX2_send : MethodName := ⟨RX2, "send", "(LTwoHalves$State;II)V"⟩
abbrev cX2_came : ByteArray := prog_4_method_4_code
def yX2_came : MethodName := ⟨RX2, "came", "(II)Z"⟩
abbrev cX2_isBlank : ByteArray := prog_4_method_5_code
def yX2_isBlank : MethodName := ⟨RX2, "isBlank", "(I)Z"⟩
abbrev cX2_fill : ByteArray := prog_4_method_6_code
def yX2_fill : MethodName := ⟨RX2, "fill", "(LTwoHalves$State;IZZ)V"⟩
abbrev cX2_fillBlank : ByteArray := prog_4_method_7_code
def yX2_fillBlank : MethodName := ⟨RX2, "fillBlank", "(I)V"⟩
abbrev cX2_between : ByteArray := prog_4_method_8_code
def yX2_between : MethodName := ⟨RX2, "between", "(III)I"⟩
def RX3 : String := "TwoHalves$Seen"
def TX3 : u_T := fun k => match k with
  | 0 => ("TwoHalves$Seen", "places", "[I", true)
  | 1 => ("TwoHalves$Seen", "values", "[I", true)
  | _ => ("TwoHalves$Seen", "size", "I", false)
def tyX3 : Nat → FieldType := fun k => match k with
  | 0 => .array .int
  | 1 => .array .int
  | _ => .int
theorem nmX3 : ∀ a, a < 3 → ∀ b, b < 3 → a ≠ b → (TX3 a).2.1 ≠ (TX3 b).2.1 := by decide +kernel
theorem tyX3_ok : ∀ k, k < 3 → parseFieldDescriptor (TX3 k).2.2.1 = some (tyX3 k) := by decide +kernel
abbrev cX3_init : ByteArray := prog_5_method_1_code
def yX3_init : MethodName := ⟨RX3, "<init>", "()V"⟩
abbrev cX3_add : ByteArray := prog_5_method_2_code
def yX3_add : MethodName := ⟨RX3, "add", "(II)Z"⟩
abbrev cX3_isSo : ByteArray := prog_5_method_3_code
def yX3_isSo : MethodName := ⟨RX3, "isSo", "(LTwoHalves$Outcome;)Z"⟩
def RX4 : String := "TwoHalves$Slots"
def TX4 : u_T := fun k => match k with
  | 0 => ("TwoHalves$Slots", "kept", "[LTwoHalves$State;", true)
  | _ => ("TwoHalves$Slots", "filled", "I", false)
def tyX4 : Nat → FieldType := fun k => match k with
  | 0 => .array (.object "TwoHalves$State")
  | _ => .int
theorem nmX4 : ∀ a, a < 2 → ∀ b, b < 2 → a ≠ b → (TX4 a).2.1 ≠ (TX4 b).2.1 := by decide +kernel
theorem tyX4_ok : ∀ k, k < 2 → parseFieldDescriptor (TX4 k).2.2.1 = some (tyX4 k) := by decide +kernel
abbrev cX4_init : ByteArray := prog_6_method_1_code
def yX4_init : MethodName := ⟨RX4, "<init>", "()V"⟩
abbrev cX4_put : ByteArray := prog_6_method_2_code
def yX4_put : MethodName := ⟨RX4, "put", "(ILTwoHalves$State;)V"⟩
abbrev cX4_takeInto : ByteArray := prog_6_method_3_code
def yX4_takeInto : MethodName := ⟨RX4, "takeInto", "(ILTwoHalves$State;)Z"⟩
abbrev cX4_forgetAll : ByteArray := prog_6_method_4_code
def yX4_forgetAll : MethodName := ⟨RX4, "forgetAll", "()V"⟩
def RX5 : String := "TwoHalves$State"
def TX5 : u_T := fun k => match k with
  | 0 => ("TwoHalves$State", "rows", "I", false)
  | 1 => ("TwoHalves$State", "columns", "I", false)
  | 2 => ("TwoHalves$State", "shades", "I", false)
  | 3 => ("TwoHalves$State", "shift", "I", false)
  | 4 => ("TwoHalves$State", "lost", "I", false)
  | 5 => ("TwoHalves$State", "rowOf", "[I", true)
  | 6 => ("TwoHalves$State", "columnOf", "[I", true)
  | _ => ("TwoHalves$State", "dots", "[I", true)
def tyX5 : Nat → FieldType := fun k => match k with
  | 0 => .int
  | 1 => .int
  | 2 => .int
  | 3 => .int
  | 4 => .int
  | 5 => .array .int
  | 6 => .array .int
  | _ => .array .int
theorem nmX5 : ∀ a, a < 8 → ∀ b, b < 8 → a ≠ b → (TX5 a).2.1 ≠ (TX5 b).2.1 := by decide +kernel
theorem tyX5_ok : ∀ k, k < 8 → parseFieldDescriptor (TX5 k).2.2.1 = some (tyX5 k) := by decide +kernel
abbrev cX5_init : ByteArray := prog_7_method_1_code
def yX5_init : MethodName := ⟨RX5, "<init>", "()V"⟩
abbrev cX5_renew : ByteArray := prog_7_method_2_code
def yX5_renew : MethodName := ⟨RX5, "renew", "()V"⟩
abbrev cX5_copy : ByteArray := prog_7_method_3_code
def yX5_copy : MethodName := ⟨RX5, "copy", "(LTwoHalves$State;)V"⟩
abbrev cX5_tellRows : ByteArray := prog_7_method_4_code
def yX5_tellRows : MethodName := ⟨RX5, "tellRows", "(I)Z"⟩
abbrev cX5_tellColumns : ByteArray := prog_7_method_5_code
def yX5_tellColumns : MethodName := ⟨RX5, "tellColumns", "(I)Z"⟩
abbrev cX5_hasRoom : ByteArray := prog_7_method_6_code
def yX5_hasRoom : MethodName := ⟨RX5, "hasRoom", "()Z"⟩
abbrev cX5_tellRow : ByteArray := prog_7_method_7_code
def yX5_tellRow : MethodName := ⟨RX5, "tellRow", "(I)Z"⟩
abbrev cX5_tellColumn : ByteArray := prog_7_method_8_code
def yX5_tellColumn : MethodName := ⟨RX5, "tellColumn", "(I)Z"⟩
abbrev cX5_hasShade : ByteArray := prog_7_method_9_code
def yX5_hasShade : MethodName := ⟨RX5, "hasShade", "(I)Z"⟩
abbrev cX5_hasCell : ByteArray := prog_7_method_10_code
def yX5_hasCell : MethodName := ⟨RX5, "hasCell", "(II)Z"⟩
abbrev cX5_numbersOf : ByteArray := prog_7_method_11_code
def yX5_numbersOf : MethodName := ⟨RX5, "numbersOf", "(I)I"⟩
abbrev cX5_shadeIn : ByteArray := prog_7_method_12_code
def yX5_shadeIn : MethodName := ⟨RX5, "shadeIn", "(II)I"⟩
abbrev cX5_shadesInRow : ByteArray := prog_7_method_13_code
def yX5_shadesInRow : MethodName := ⟨RX5, "shadesInRow", "(I)I"⟩
abbrev cX5_timesPainted : ByteArray := prog_7_method_14_code
def yX5_timesPainted : MethodName := ⟨RX5, "timesPainted", "(I)I"⟩
abbrev cX5_put : ByteArray := prog_7_method_15_code
def yX5_put : MethodName := ⟨RX5, "put", "(III)V"⟩
abbrev cX5_swap : ByteArray := prog_7_method_16_code
def yX5_swap : MethodName := ⟨RX5, "swap", "(II)V"⟩
abbrev cX5_cellsWithin : ByteArray := prog_7_method_17_code
def yX5_cellsWithin : MethodName := ⟨RX5, "cellsWithin", "(I)I"⟩
abbrev cX5_layWithin : ByteArray := prog_7_method_18_code
def yX5_layWithin : MethodName := ⟨RX5, "layWithin", "(I)V"⟩
abbrev cX5_loseOrFind : ByteArray := prog_7_method_19_code
def yX5_loseOrFind : MethodName := ⟨RX5, "loseOrFind", "(I)V"⟩
abbrev cX5_paintBy : ByteArray := prog_7_method_20_code
def yX5_paintBy : MethodName := ⟨RX5, "paintBy", "(I)V"⟩
def RX6 : String := "TwoHalves$Text"
def TX6 : u_T := fun k => match k with
  | 0 => ("TwoHalves$Text", "letters", "[I", true)
  | _ => ("TwoHalves$Text", "length", "I", false)
def tyX6 : Nat → FieldType := fun k => match k with
  | 0 => .array .int
  | _ => .int
theorem nmX6 : ∀ a, a < 2 → ∀ b, b < 2 → a ≠ b → (TX6 a).2.1 ≠ (TX6 b).2.1 := by decide +kernel
theorem tyX6_ok : ∀ k, k < 2 → parseFieldDescriptor (TX6 k).2.2.1 = some (tyX6 k) := by decide +kernel
abbrev cX6_init : ByteArray := prog_8_method_1_code
def yX6_init : MethodName := ⟨RX6, "<init>", "()V"⟩
abbrev cX6_add : ByteArray := prog_8_method_2_code
def yX6_add : MethodName := ⟨RX6, "add", "(I)Z"⟩
abbrev cX6_readInto : ByteArray := prog_8_method_3_code
def yX6_readInto : MethodName := ⟨RX6, "readInto", "(LTwoHalves$State;)I"⟩
abbrev cX6_takes : ByteArray := prog_8_method_4_code
def yX6_takes : MethodName := ⟨RX6, "takes", "(LTwoHalves$State;II)Z"⟩
def RX7 : String := "TwoHalves"
def TX7 : u_T := fun k => match k with
  | 0 => ("TwoHalves", "text", "LTwoHalves$Text;", true)
  | 1 => ("TwoHalves", "now", "LTwoHalves$State;", true)
  | 2 => ("TwoHalves", "trial", "LTwoHalves$State;", true)
  | 3 => ("TwoHalves", "acts", "LTwoHalves$Acts;", true)
  | 4 => ("TwoHalves", "slots", "LTwoHalves$Slots;", true)
  | 5 => ("TwoHalves", "seen", "LTwoHalves$Seen;", true)
  | 6 => ("TwoHalves", "guesses", "LTwoHalves$Guesses;", true)
  | 7 => ("TwoHalves", "outcome", "LTwoHalves$Outcome;", true)
  | 8 => ("TwoHalves", "misses", "[I", true)
  | _ => ("TwoHalves", "theSeed", "J", false)
def tyX7 : Nat → FieldType := fun k => match k with
  | 0 => .object "TwoHalves$Text"
  | 1 => .object "TwoHalves$State"
  | 2 => .object "TwoHalves$State"
  | 3 => .object "TwoHalves$Acts"
  | 4 => .object "TwoHalves$Slots"
  | 5 => .object "TwoHalves$Seen"
  | 6 => .object "TwoHalves$Guesses"
  | 7 => .object "TwoHalves$Outcome"
  | 8 => .array .int
  | _ => .long
theorem nmX7 : ∀ a, a < 10 → ∀ b, b < 10 → a ≠ b → (TX7 a).2.1 ≠ (TX7 b).2.1 := by decide +kernel
theorem tyX7_ok : ∀ k, k < 10 → parseFieldDescriptor (TX7 k).2.2.1 = some (tyX7 k) := by decide +kernel
abbrev cX7_init : ByteArray := prog_1_method_1_code
def yX7_init : MethodName := ⟨RX7, "<init>", "()V"⟩
abbrev cX7_write : ByteArray := prog_1_method_2_code
def yX7_write : MethodName := ⟨RX7, "write", "(I)I"⟩
abbrev cX7_wipe : ByteArray := prog_1_method_3_code
def yX7_wipe : MethodName := ⟨RX7, "wipe", "()I"⟩
abbrev cX7_fault : ByteArray := prog_1_method_4_code
def yX7_fault : MethodName := ⟨RX7, "fault", "()I"⟩
abbrev cX7_map : ByteArray := prog_1_method_5_code
def yX7_map : MethodName := ⟨RX7, "map", "()I"⟩
abbrev cX7_about : ByteArray := prog_1_method_6_code
def yX7_about : MethodName := ⟨RX7, "about", "(I)I"⟩
abbrev cX7_shade : ByteArray := prog_1_method_7_code
def yX7_shade : MethodName := ⟨RX7, "shade", "(II)I"⟩
abbrev cX7_cell : ByteArray := prog_1_method_8_code
def yX7_cell : MethodName := ⟨RX7, "cell", "(II)I"⟩
abbrev cX7_guess : ByteArray := prog_1_method_9_code
def yX7_guess : MethodName := ⟨RX7, "guess", "(II)I"⟩
abbrev cX7_dot : ByteArray := prog_1_method_10_code
def yX7_dot : MethodName := ⟨RX7, "dot", "(IIZ)I"⟩
abbrev cX7_change : ByteArray := prog_1_method_11_code
def yX7_change : MethodName := ⟨RX7, "change", "(II)I"⟩
abbrev cX7_move : ByteArray := prog_1_method_12_code
def yX7_move : MethodName := ⟨RX7, "move", "(III)I"⟩
abbrev cX7_lay : ByteArray := prog_1_method_13_code
def yX7_lay : MethodName := ⟨RX7, "lay", "(I)I"⟩
abbrev cX7_paint : ByteArray := prog_1_method_14_code
def yX7_paint : MethodName := ⟨RX7, "paint", "(III)I"⟩
abbrev cX7_shift : ByteArray := prog_1_method_15_code
def yX7_shift : MethodName := ⟨RX7, "shift", "(I)I"⟩
abbrev cX7_lose : ByteArray := prog_1_method_16_code
def yX7_lose : MethodName := ⟨RX7, "lose", "(I)I"⟩
abbrev cX7_undo : ByteArray := prog_1_method_17_code
def yX7_undo : MethodName := ⟨RX7, "undo", "()I"⟩
abbrev cX7_miss : ByteArray := prog_1_method_18_code
def yX7_miss : MethodName := ⟨RX7, "miss", "(I)I"⟩
abbrev cX7_judge : ByteArray := prog_1_method_19_code
def yX7_judge : MethodName := ⟨RX7, "judge", "(IJ)I"⟩
abbrev cX7_see : ByteArray := prog_1_method_20_code
def yX7_see : MethodName := ⟨RX7, "see", "(III)I"⟩
abbrev cX7_unsee : ByteArray := prog_1_method_21_code
def yX7_unsee : MethodName := ⟨RX7, "unsee", "()I"⟩
abbrev cX7_which : ByteArray := prog_1_method_22_code
def yX7_which : MethodName := ⟨RX7, "which", "()I"⟩
abbrev cX7_share : ByteArray := prog_1_method_23_code
def yX7_share : MethodName := ⟨RX7, "share", "(IZ)I"⟩
abbrev cX7_chance : ByteArray := prog_1_method_24_code
def yX7_chance : MethodName := ⟨RX7, "chance", "(IIZ)I"⟩
abbrev cX7_mean : ByteArray := prog_1_method_25_code
def yX7_mean : MethodName := ⟨RX7, "mean", "(IZ)I"⟩
abbrev cX7_seed : ByteArray := prog_1_method_26_code
def yX7_seed : MethodName := ⟨RX7, "seed", "(J)J"⟩
abbrev cX7_drawn : ByteArray := prog_1_method_27_code
def yX7_drawn : MethodName := ⟨RX7, "drawn", "(I)I"⟩
abbrev cX7_keep : ByteArray := prog_1_method_28_code
def yX7_keep : MethodName := ⟨RX7, "keep", "(I)I"⟩
abbrev cX7_again : ByteArray := prog_1_method_29_code
def yX7_again : MethodName := ⟨RX7, "again", "(I)I"⟩
abbrev cX7_isDot : ByteArray := prog_1_method_30_code
def yX7_isDot : MethodName := ⟨RX7, "isDot", "(II)Z"⟩
abbrev cX7_isPack : ByteArray := prog_1_method_31_code
def yX7_isPack : MethodName := ⟨RX7, "isPack", "(I)Z"⟩
abbrev cX7_isShift : ByteArray := prog_1_method_32_code
def yX7_isShift : MethodName := ⟨RX7, "isShift", "(I)Z"⟩
abbrev cX7_isTenths : ByteArray := prog_1_method_33_code
def yX7_isTenths : MethodName := ⟨RX7, "isTenths", "(I)Z"⟩
abbrev cX7_isSlot : ByteArray := prog_1_method_34_code
def yX7_isSlot : MethodName := ⟨RX7, "isSlot", "(I)Z"⟩
abbrev cX7_blankNow : ByteArray := prog_1_method_35_code
def yX7_blankNow : MethodName := ⟨RX7, "blankNow", "()I"⟩
abbrev cX7_sideOf : ByteArray := prog_1_method_36_code
def yX7_sideOf : MethodName := ⟨RX7, "sideOf", "(I)I"⟩
abbrev cX7_bothSides : ByteArray := prog_1_method_37_code
def yX7_bothSides : MethodName := ⟨RX7, "bothSides", "(LTwoHalves$State;)I"⟩
abbrev cX7_bestChange : ByteArray := prog_1_method_38_code
def yX7_bestChange : MethodName := ⟨RX7, "bestChange", "()I"⟩
abbrev cX7_bestShift : ByteArray := prog_1_method_39_code
def yX7_bestShift : MethodName := ⟨RX7, "bestShift", "()I"⟩
abbrev cX7_greatestMiss : ByteArray := prog_1_method_40_code
def yX7_greatestMiss : MethodName := ⟨RX7, "greatestMiss", "(I)I"⟩
abbrev cX7_band : ByteArray := prog_1_method_41_code
def yX7_band : MethodName := ⟨RX7, "band", "()I"⟩
abbrev cX7_goesWell : ByteArray := prog_1_method_42_code
def yX7_goesWell : MethodName := ⟨RX7, "goesWell", "(III)Z"⟩
abbrev cX7_triedPack : ByteArray := prog_1_method_43_code
def yX7_triedPack : MethodName := ⟨RX7, "triedPack", "(I)Z"⟩
abbrev cX7_triedShift : ByteArray := prog_1_method_44_code
def yX7_triedShift : MethodName := ⟨RX7, "triedShift", "(I)Z"⟩
abbrev cX7_comesOutRight : ByteArray := prog_1_method_45_code
def yX7_comesOutRight : MethodName := ⟨RX7, "comesOutRight", "(I)Z"⟩
abbrev cX7_comesOutBlank : ByteArray := prog_1_method_46_code
def yX7_comesOutBlank : MethodName := ⟨RX7, "comesOutBlank", "(I)Z"⟩
abbrev cX7_triedChange : ByteArray := prog_1_method_47_code
def yX7_triedChange : MethodName := ⟨RX7, "triedChange", "(II)Z"⟩
abbrev cX7_tellMisses : ByteArray := prog_1_method_48_code
def yX7_tellMisses : MethodName := ⟨RX7, "tellMisses", "()V"⟩
abbrev cX7_likelihood : ByteArray := prog_1_method_49_code
def yX7_likelihood : MethodName := ⟨RX7, "likelihood", "(II)I"⟩
abbrev cX7_fraction : ByteArray := prog_1_method_50_code
def yX7_fraction : MethodName := ⟨RX7, "fraction", "(IIZ)I"⟩
abbrev cX7_commonDivisor : ByteArray := prog_1_method_51_code
def yX7_commonDivisor : MethodName := ⟨RX7, "commonDivisor", "(II)I"⟩
abbrev cX7_square : ByteArray := prog_1_method_52_code
def yX7_square : MethodName := ⟨RX7, "square", "(I)I"⟩
def RX8 : String := "TwoHalvesModel"
def TX8 : u_T := fun k => match k with
  | 0 => ("TwoHalvesModel", "text", "[I", true)
  | 1 => ("TwoHalvesModel", "length", "I", false)
  | 2 => ("TwoHalvesModel", "rows", "I", false)
  | 3 => ("TwoHalvesModel", "columns", "I", false)
  | 4 => ("TwoHalvesModel", "shades", "I", false)
  | 5 => ("TwoHalvesModel", "now", "[I", true)
  | 6 => ("TwoHalvesModel", "trial", "[I", true)
  | 7 => ("TwoHalvesModel", "diary", "[I", true)
  | 8 => ("TwoHalvesModel", "acts", "I", false)
  | 9 => ("TwoHalvesModel", "next", "I", false)
  | 10 => ("TwoHalvesModel", "kept", "[I", true)
  | 11 => ("TwoHalvesModel", "isKept", "[Z", true)
  | 12 => ("TwoHalvesModel", "seenAt", "[I", true)
  | 13 => ("TwoHalvesModel", "seenIs", "[I", true)
  | 14 => ("TwoHalvesModel", "seen", "I", false)
  | 15 => ("TwoHalvesModel", "seed", "J", false)
  | 16 => ("TwoHalvesModel", "out", "[I", true)
  | 17 => ("TwoHalvesModel", "blank", "[Z", true)
  | 18 => ("TwoHalvesModel", "worth", "[I", true)
  | 19 => ("TwoHalvesModel", "readRows", "I", false)
  | 20 => ("TwoHalvesModel", "readColumns", "I", false)
  | 21 => ("TwoHalvesModel", "readShades", "I", false)
  | 22 => ("TwoHalvesModel", "readCells", "[I", true)
  | 23 => ("TwoHalvesModel", "part", "I", false)
  | _ => ("TwoHalvesModel", "readRow", "I", false)
def tyX8 : Nat → FieldType := fun k => match k with
  | 0 => .array .int
  | 1 => .int
  | 2 => .int
  | 3 => .int
  | 4 => .int
  | 5 => .array .int
  | 6 => .array .int
  | 7 => .array .int
  | 8 => .int
  | 9 => .int
  | 10 => .array .int
  | 11 => .array .boolean
  | 12 => .array .int
  | 13 => .array .int
  | 14 => .int
  | 15 => .long
  | 16 => .array .int
  | 17 => .array .boolean
  | 18 => .array .int
  | 19 => .int
  | 20 => .int
  | 21 => .int
  | 22 => .array .int
  | 23 => .int
  | _ => .int
theorem nmX8 : ∀ a, a < 25 → ∀ b, b < 25 → a ≠ b → (TX8 a).2.1 ≠ (TX8 b).2.1 := by decide +kernel
theorem tyX8_ok : ∀ k, k < 25 → parseFieldDescriptor (TX8 k).2.2.1 = some (tyX8 k) := by decide +kernel
abbrev cX8_init : ByteArray := prog_10_method_1_code
def yX8_init : MethodName := ⟨RX8, "<init>", "()V"⟩
abbrev cX8_copy : ByteArray := prog_10_method_3_code
def yX8_copy : MethodName := ⟨RX8, "copy", "([I[I)V"⟩
abbrev cX8_in : ByteArray := prog_10_method_4_code
def yX8_in : MethodName := ⟨RX8, "in", "(JJJ)Z"⟩
abbrev cX8_has : ByteArray := prog_10_method_5_code
def yX8_has : MethodName := ⟨RX8, "has", "(II)Z"⟩
abbrev cX8_ones : ByteArray := prog_10_method_6_code
def yX8_ones : MethodName := ⟨RX8, "ones", "(I)I"⟩
abbrev cX8_power : ByteArray := prog_10_method_7_code
def yX8_power : MethodName := ⟨RX8, "power", "(II)I"⟩
abbrev cX8_factorial : ByteArray := prog_10_method_8_code
def yX8_factorial : MethodName := ⟨RX8, "factorial", "(I)I"⟩
abbrev cX8_fraction : ByteArray := prog_10_method_9_code
def yX8_fraction : MethodName := ⟨RX8, "fraction", "(IIZ)I"⟩
abbrev cX8_isShade : ByteArray := prog_10_method_10_code
def yX8_isShade : MethodName := ⟨RX8, "isShade", "(I)Z"⟩
abbrev cX8_isFour : ByteArray := prog_10_method_11_code
def yX8_isFour : MethodName := ⟨RX8, "isFour", "(I)Z"⟩
abbrev cX8_write : ByteArray := prog_10_method_12_code
def yX8_write : MethodName := ⟨RX8, "write", "(I)I"⟩
abbrev cX8_wipe : ByteArray := prog_10_method_13_code
def yX8_wipe : MethodName := ⟨RX8, "wipe", "()I"⟩
abbrev cX8_isEmptyAsRead : ByteArray := prog_10_method_14_code
def yX8_isEmptyAsRead : MethodName := ⟨RX8, "isEmptyAsRead", "(I)Z"⟩
abbrev cX8_hasRoomAsRead : ByteArray := prog_10_method_15_code
def yX8_hasRoomAsRead : MethodName := ⟨RX8, "hasRoomAsRead", "(I)Z"⟩
abbrev cX8_take : ByteArray := prog_10_method_16_code
def yX8_take : MethodName := ⟨RX8, "take", "(I)Z"⟩
abbrev cX8_readText : ByteArray := prog_10_method_17_code
def yX8_readText : MethodName := ⟨RX8, "readText", "()I"⟩
abbrev cX8_fault : ByteArray := prog_10_method_18_code
def yX8_fault : MethodName := ⟨RX8, "fault", "()I"⟩
abbrev cX8_map : ByteArray := prog_10_method_19_code
def yX8_map : MethodName := ⟨RX8, "map", "()I"⟩
abbrev cX8_lineOf : ByteArray := prog_10_method_20_code
def yX8_lineOf : MethodName := ⟨RX8, "lineOf", "(II)I"⟩
abbrev cX8_guessOf : ByteArray := prog_10_method_21_code
def yX8_guessOf : MethodName := ⟨RX8, "guessOf", "([III)I"⟩
abbrev cX8_sideOf : ByteArray := prog_10_method_22_code
def yX8_sideOf : MethodName := ⟨RX8, "sideOf", "([II)I"⟩
abbrev cX8_sides : ByteArray := prog_10_method_23_code
def yX8_sides : MethodName := ⟨RX8, "sides", "([I)I"⟩
abbrev cX8_comes : ByteArray := prog_10_method_24_code
def yX8_comes : MethodName := ⟨RX8, "comes", "([IIIZZ)I"⟩
abbrev cX8_fill : ByteArray := prog_10_method_25_code
def yX8_fill : MethodName := ⟨RX8, "fill", "(I)V"⟩
abbrev cX8_layOut : ByteArray := prog_10_method_26_code
def yX8_layOut : MethodName := ⟨RX8, "layOut", "([II)V"⟩
abbrev cX8_missBy : ByteArray := prog_10_method_27_code
def yX8_missBy : MethodName := ⟨RX8, "missBy", "([II)I"⟩
abbrev cX8_blanks : ByteArray := prog_10_method_28_code
def yX8_blanks : MethodName := ⟨RX8, "blanks", "()I"⟩
abbrev cX8_changeOn : ByteArray := prog_10_method_29_code
def yX8_changeOn : MethodName := ⟨RX8, "changeOn", "([III)V"⟩
abbrev cX8_bestChange : ByteArray := prog_10_method_30_code
def yX8_bestChange : MethodName := ⟨RX8, "bestChange", "()I"⟩
abbrev cX8_bestShift : ByteArray := prog_10_method_31_code
def yX8_bestShift : MethodName := ⟨RX8, "bestShift", "()I"⟩
abbrev cX8_layOn : ByteArray := prog_10_method_32_code
def yX8_layOn : MethodName := ⟨RX8, "layOn", "([II)Z"⟩
abbrev cX8_band : ByteArray := prog_10_method_33_code
def yX8_band : MethodName := ⟨RX8, "band", "()I"⟩
abbrev cX8_about : ByteArray := prog_10_method_34_code
def yX8_about : MethodName := ⟨RX8, "about", "(I)I"⟩
abbrev cX8_howOften : ByteArray := prog_10_method_35_code
def yX8_howOften : MethodName := ⟨RX8, "howOften", "(I)I"⟩
abbrev cX8_shade : ByteArray := prog_10_method_36_code
def yX8_shade : MethodName := ⟨RX8, "shade", "(II)I"⟩
abbrev cX8_shadeAt : ByteArray := prog_10_method_37_code
def yX8_shadeAt : MethodName := ⟨RX8, "shadeAt", "(I)I"⟩
abbrev cX8_isCell : ByteArray := prog_10_method_38_code
def yX8_isCell : MethodName := ⟨RX8, "isCell", "(II)Z"⟩
abbrev cX8_cell : ByteArray := prog_10_method_39_code
def yX8_cell : MethodName := ⟨RX8, "cell", "(II)I"⟩
abbrev cX8_guess : ByteArray := prog_10_method_40_code
def yX8_guess : MethodName := ⟨RX8, "guess", "(II)I"⟩
abbrev cX8_dot : ByteArray := prog_10_method_41_code
def yX8_dot : MethodName := ⟨RX8, "dot", "(IIZ)I"⟩
abbrev cX8_note : ByteArray := prog_10_method_42_code
def yX8_note : MethodName := ⟨RX8, "note", "()V"⟩
abbrev cX8_change : ByteArray := prog_10_method_43_code
def yX8_change : MethodName := ⟨RX8, "change", "(II)I"⟩
abbrev cX8_move : ByteArray := prog_10_method_44_code
def yX8_move : MethodName := ⟨RX8, "move", "(III)I"⟩
abbrev cX8_lay : ByteArray := prog_10_method_45_code
def yX8_lay : MethodName := ⟨RX8, "lay", "(I)I"⟩
abbrev cX8_paint : ByteArray := prog_10_method_46_code
def yX8_paint : MethodName := ⟨RX8, "paint", "(III)I"⟩
abbrev cX8_shift : ByteArray := prog_10_method_47_code
def yX8_shift : MethodName := ⟨RX8, "shift", "(I)I"⟩
abbrev cX8_lose : ByteArray := prog_10_method_48_code
def yX8_lose : MethodName := ⟨RX8, "lose", "(I)I"⟩
abbrev cX8_undo : ByteArray := prog_10_method_49_code
def yX8_undo : MethodName := ⟨RX8, "undo", "()I"⟩
abbrev cX8_miss : ByteArray := prog_10_method_50_code
def yX8_miss : MethodName := ⟨RX8, "miss", "(I)I"⟩
abbrev cX8_judged : ByteArray := prog_10_method_51_code
def yX8_judged : MethodName := ⟨RX8, "judged", "(III)Z"⟩
abbrev cX8_thousands : ByteArray := prog_10_method_52_code
def yX8_thousands : MethodName := ⟨RX8, "thousands", "(I)J"⟩
abbrev cX8_judge : ByteArray := prog_10_method_53_code
def yX8_judge : MethodName := ⟨RX8, "judge", "(IJ)I"⟩
abbrev cX8_see : ByteArray := prog_10_method_54_code
def yX8_see : MethodName := ⟨RX8, "see", "(III)I"⟩
abbrev cX8_unsee : ByteArray := prog_10_method_55_code
def yX8_unsee : MethodName := ⟨RX8, "unsee", "()I"⟩
abbrev cX8_which : ByteArray := prog_10_method_56_code
def yX8_which : MethodName := ⟨RX8, "which", "()I"⟩
abbrev cX8_share : ByteArray := prog_10_method_57_code
def yX8_share : MethodName := ⟨RX8, "share", "(IZ)I"⟩
abbrev cX8_chance : ByteArray := prog_10_method_58_code
def yX8_chance : MethodName := ⟨RX8, "chance", "(IIZ)I"⟩
abbrev cX8_mean : ByteArray := prog_10_method_59_code
def yX8_mean : MethodName := ⟨RX8, "mean", "(IZ)I"⟩
abbrev cX8_seed : ByteArray := prog_10_method_60_code
def yX8_seed : MethodName := ⟨RX8, "seed", "(J)J"⟩
abbrev cX8_drawn : ByteArray := prog_10_method_61_code
def yX8_drawn : MethodName := ⟨RX8, "drawn", "(I)I"⟩
abbrev cX8_keep : ByteArray := prog_10_method_62_code
def yX8_keep : MethodName := ⟨RX8, "keep", "(I)I"⟩
abbrev cX8_again : ByteArray := prog_10_method_63_code
def yX8_again : MethodName := ⟨RX8, "again", "(I)I"⟩
def RJ6 : String := "java/lang/Integer"
abbrev cJ6_bitCount_0f7a4 : ByteArray := prog_11_method_49_code
def yJ6_bitCount_0f7a4 : MethodName := ⟨RJ6, "bitCount", "(I)I"⟩
def RJ9 : String := "java/lang/Math"
abbrev cJ9_abs_0f7a4 : ByteArray := prog_12_method_59_code
def yJ9_abs_0f7a4 : MethodName := ⟨RJ9, "abs", "(I)I"⟩
abbrev cJ9_max_7cf53 : ByteArray := prog_12_method_65_code
def yJ9_max_7cf53 : MethodName := ⟨RJ9, "max", "(II)I"⟩
def RJ10 : String := "java/lang/System"
def RJ7 : String := "java/util/Arrays"
abbrev cJ7_fill_53178 : ByteArray := prog_14_method_103_code
def yJ7_fill_53178 : MethodName := ⟨RJ7, "fill", "([II)V"⟩
def RL : String := "TwoHalvesLaw"
abbrev cL_law : ByteArray := code
def yL_law : MethodName := ⟨RL, "law", "([I)Z"⟩
abbrev vwCl : List vw_C := [(RX0, TX0, 3), (RX1, TX1, 4), (RX2, TX2, 3), (RX3, TX3, 3), (RX4, TX4, 2), (RX5, TX5, 8), (RX6, TX6, 2), (RX7, TX7, 10), (RX8, TX8, 25)]
def MX5_init : Mth := (yX5_init, cX5_init, 1, none, RX5)
def MX0_init : Mth := (yX0_init, cX0_init, 2, none, RX0)
def MX5_copy : Mth := (yX5_copy, cX5_copy, 2, none, RX5)
def MX0_remember : Mth := (yX0_remember, cX0_remember, 2, none, RX0)
def MX0_takeBackInto : Mth := (yX0_takeBackInto, cX0_takeBackInto, 2, (some .boolean), RX0)
def MX0_forgetAll : Mth := (yX0_forgetAll, cX0_forgetAll, 1, none, RX0)
def MX1_init : Mth := (yX1_init, cX1_init, 1, none, RX1)
def MJ7_fill_53178 : Mth := (yJ7_fill_53178, cJ7_fill_53178, 4, none, RJ7)
def MX1_count : Mth := (yX1_count, cX1_count, 3, none, RX1)
def MX1_nearest : Mth := (yX1_nearest, cX1_nearest, 2, (some .int), RX1)
def MX7_square : Mth := (yX7_square, cX7_square, 1, (some .int), RX7)
def MX1_takeSides : Mth := (yX1_takeSides, cX1_takeSides, 3, none, RX1)
def MX1_take : Mth := (yX1_take, cX1_take, 3, none, RX1)
def MX1_of : Mth := (yX1_of, cX1_of, 3, (some .int), RX1)
def MX1_side : Mth := (yX1_side, cX1_side, 2, (some .int), RX1)
def MX2_init : Mth := (yX2_init, cX2_init, 1, none, RX2)
def MX2_came : Mth := (yX2_came, cX2_came, 2, (some .boolean), RX2)
def MX5_hasShade : Mth := (yX5_hasShade, cX5_hasShade, 2, (some .boolean), RX5)
def MX2_fill : Mth := (yX2_fill, cX2_fill, 7, none, RX2)
def MX2_isBlank : Mth := (yX2_isBlank, cX2_isBlank, 2, (some .boolean), RX2)
def MX2_between : Mth := (yX2_between, cX2_between, 4, (some .int), RX2)
def MX2_fillBlank : Mth := (yX2_fillBlank, cX2_fillBlank, 5, none, RX2)
def MX2_send : Mth := (yX2_send, cX2_send, 7, none, RX2)
def MX2_missBy : Mth := (yX2_missBy, cX2_missBy, 6, (some .int), RX2)
def MX3_init : Mth := (yX3_init, cX3_init, 1, none, RX3)
def MX3_add : Mth := (yX3_add, cX3_add, 3, (some .boolean), RX3)
def MX3_isSo : Mth := (yX3_isSo, cX3_isSo, 3, (some .boolean), RX3)
def MX4_init : Mth := (yX4_init, cX4_init, 2, none, RX4)
def MX4_put : Mth := (yX4_put, cX4_put, 3, none, RX4)
def MX4_takeInto : Mth := (yX4_takeInto, cX4_takeInto, 3, (some .boolean), RX4)
def MX4_forgetAll : Mth := (yX4_forgetAll, cX4_forgetAll, 1, none, RX4)
def MX5_renew : Mth := (yX5_renew, cX5_renew, 1, none, RX5)
def MX5_tellRows : Mth := (yX5_tellRows, cX5_tellRows, 2, (some .boolean), RX5)
def MX5_tellColumns : Mth := (yX5_tellColumns, cX5_tellColumns, 2, (some .boolean), RX5)
def MX5_hasRoom : Mth := (yX5_hasRoom, cX5_hasRoom, 1, (some .boolean), RX5)
def MX5_shadesInRow : Mth := (yX5_shadesInRow, cX5_shadesInRow, 4, (some .int), RX5)
def MX5_tellRow : Mth := (yX5_tellRow, cX5_tellRow, 2, (some .boolean), RX5)
def MX5_shadeIn : Mth := (yX5_shadeIn, cX5_shadeIn, 4, (some .int), RX5)
def MX5_tellColumn : Mth := (yX5_tellColumn, cX5_tellColumn, 2, (some .boolean), RX5)
def MX5_hasCell : Mth := (yX5_hasCell, cX5_hasCell, 3, (some .boolean), RX5)
def MX5_numbersOf : Mth := (yX5_numbersOf, cX5_numbersOf, 2, (some .int), RX5)
def MX5_timesPainted : Mth := (yX5_timesPainted, cX5_timesPainted, 4, (some .int), RX5)
def MX5_put : Mth := (yX5_put, cX5_put, 4, none, RX5)
def MX5_swap : Mth := (yX5_swap, cX5_swap, 5, none, RX5)
def MX5_cellsWithin : Mth := (yX5_cellsWithin, cX5_cellsWithin, 5, (some .int), RX5)
def MX5_layWithin : Mth := (yX5_layWithin, cX5_layWithin, 6, none, RX5)
def MX5_loseOrFind : Mth := (yX5_loseOrFind, cX5_loseOrFind, 2, none, RX5)
def MX5_paintBy : Mth := (yX5_paintBy, cX5_paintBy, 2, none, RX5)
def MX6_init : Mth := (yX6_init, cX6_init, 1, none, RX6)
def MX6_add : Mth := (yX6_add, cX6_add, 2, (some .boolean), RX6)
def MX6_takes : Mth := (yX6_takes, cX6_takes, 4, (some .boolean), RX6)
def MX6_readInto : Mth := (yX6_readInto, cX6_readInto, 3, (some .int), RX6)
def MX7_init : Mth := (yX7_init, cX7_init, 1, none, RX7)
def MX7_write : Mth := (yX7_write, cX7_write, 2, (some .int), RX7)
def MX7_wipe : Mth := (yX7_wipe, cX7_wipe, 2, (some .int), RX7)
def MX7_fault : Mth := (yX7_fault, cX7_fault, 1, (some .int), RX7)
def MX7_map : Mth := (yX7_map, cX7_map, 1, (some .int), RX7)
def MX7_blankNow : Mth := (yX7_blankNow, cX7_blankNow, 1, (some .int), RX7)
def MX7_sideOf : Mth := (yX7_sideOf, cX7_sideOf, 2, (some .int), RX7)
def MX7_bothSides : Mth := (yX7_bothSides, cX7_bothSides, 2, (some .int), RX7)
def MX7_bestChange : Mth := (yX7_bestChange, cX7_bestChange, 6, (some .int), RX7)
def MX7_greatestMiss : Mth := (yX7_greatestMiss, cX7_greatestMiss, 4, (some .int), RX7)
def MX7_bestShift : Mth := (yX7_bestShift, cX7_bestShift, 5, (some .int), RX7)
def MX7_band : Mth := (yX7_band, cX7_band, 2, (some .int), RX7)
def MX7_about : Mth := (yX7_about, cX7_about, 2, (some .int), RX7)
def MX7_shade : Mth := (yX7_shade, cX7_shade, 3, (some .int), RX7)
def MX7_cell : Mth := (yX7_cell, cX7_cell, 3, (some .int), RX7)
def MX7_guess : Mth := (yX7_guess, cX7_guess, 3, (some .int), RX7)
def MX7_isDot : Mth := (yX7_isDot, cX7_isDot, 2, (some .boolean), RX7)
def MX7_dot : Mth := (yX7_dot, cX7_dot, 4, (some .int), RX7)
def MX7_change : Mth := (yX7_change, cX7_change, 3, (some .int), RX7)
def MX7_move : Mth := (yX7_move, cX7_move, 4, (some .int), RX7)
def MX7_lay : Mth := (yX7_lay, cX7_lay, 2, (some .int), RX7)
def MX7_paint : Mth := (yX7_paint, cX7_paint, 5, (some .int), RX7)
def MX7_isShift : Mth := (yX7_isShift, cX7_isShift, 1, (some .boolean), RX7)
def MX7_shift : Mth := (yX7_shift, cX7_shift, 3, (some .int), RX7)
def MX7_isPack : Mth := (yX7_isPack, cX7_isPack, 1, (some .boolean), RX7)
def MX7_lose : Mth := (yX7_lose, cX7_lose, 2, (some .int), RX7)
def MX7_undo : Mth := (yX7_undo, cX7_undo, 1, (some .int), RX7)
def MX7_miss : Mth := (yX7_miss, cX7_miss, 2, (some .int), RX7)
def MX7_triedPack : Mth := (yX7_triedPack, cX7_triedPack, 2, (some .boolean), RX7)
def MX7_triedShift : Mth := (yX7_triedShift, cX7_triedShift, 2, (some .boolean), RX7)
def MX7_comesOutRight : Mth := (yX7_comesOutRight, cX7_comesOutRight, 2, (some .boolean), RX7)
def MX7_comesOutBlank : Mth := (yX7_comesOutBlank, cX7_comesOutBlank, 2, (some .boolean), RX7)
def MX7_triedChange : Mth := (yX7_triedChange, cX7_triedChange, 3, (some .boolean), RX7)
def MX7_goesWell : Mth := (yX7_goesWell, cX7_goesWell, 4, (some .boolean), RX7)
def MX7_judge : Mth := (yX7_judge, cX7_judge, 6, (some .int), RX7)
def MX7_see : Mth := (yX7_see, cX7_see, 4, (some .int), RX7)
def MX7_unsee : Mth := (yX7_unsee, cX7_unsee, 2, (some .int), RX7)
def MX7_which : Mth := (yX7_which, cX7_which, 3, (some .int), RX7)
def MX7_tellMisses : Mth := (yX7_tellMisses, cX7_tellMisses, 2, none, RX7)
def MJ6_bitCount_0f7a4 : Mth := (yJ6_bitCount_0f7a4, cJ6_bitCount_0f7a4, 1, (some .int), RJ6)
def MX7_commonDivisor : Mth := (yX7_commonDivisor, cX7_commonDivisor, 6, (some .int), RX7)
def MX7_fraction : Mth := (yX7_fraction, cX7_fraction, 4, (some .int), RX7)
def MX7_share : Mth := (yX7_share, cX7_share, 7, (some .int), RX7)
def MX7_isTenths : Mth := (yX7_isTenths, cX7_isTenths, 1, (some .boolean), RX7)
def MX7_likelihood : Mth := (yX7_likelihood, cX7_likelihood, 4, (some .int), RX7)
def MX7_chance : Mth := (yX7_chance, cX7_chance, 6, (some .int), RX7)
def MX7_mean : Mth := (yX7_mean, cX7_mean, 5, (some .int), RX7)
def MX7_seed : Mth := (yX7_seed, cX7_seed, 5, (some .long), RX7)
def MX7_drawn : Mth := (yX7_drawn, cX7_drawn, 4, (some .int), RX7)
def MX7_isSlot : Mth := (yX7_isSlot, cX7_isSlot, 1, (some .boolean), RX7)
def MX7_keep : Mth := (yX7_keep, cX7_keep, 2, (some .int), RX7)
def MX7_again : Mth := (yX7_again, cX7_again, 2, (some .int), RX7)
def MX8_init : Mth := (yX8_init, cX8_init, 1, none, RX8)
def MX8_copy : Mth := (yX8_copy, cX8_copy, 3, none, RX8)
def MX8_in : Mth := (yX8_in, cX8_in, 6, (some .boolean), RX8)
def MX8_has : Mth := (yX8_has, cX8_has, 2, (some .boolean), RX8)
def MX8_ones : Mth := (yX8_ones, cX8_ones, 3, (some .int), RX8)
def MX8_power : Mth := (yX8_power, cX8_power, 4, (some .int), RX8)
def MX8_factorial : Mth := (yX8_factorial, cX8_factorial, 3, (some .int), RX8)
def MX8_fraction : Mth := (yX8_fraction, cX8_fraction, 6, (some .int), RX8)
def MX8_isShade : Mth := (yX8_isShade, cX8_isShade, 2, (some .boolean), RX8)
def MX8_isFour : Mth := (yX8_isFour, cX8_isFour, 1, (some .boolean), RX8)
def MX8_write : Mth := (yX8_write, cX8_write, 2, (some .int), RX8)
def MX8_wipe : Mth := (yX8_wipe, cX8_wipe, 2, (some .int), RX8)
def MX8_isEmptyAsRead : Mth := (yX8_isEmptyAsRead, cX8_isEmptyAsRead, 4, (some .boolean), RX8)
def MX8_hasRoomAsRead : Mth := (yX8_hasRoomAsRead, cX8_hasRoomAsRead, 4, (some .boolean), RX8)
def MX8_take : Mth := (yX8_take, cX8_take, 3, (some .boolean), RX8)
def MX8_readText : Mth := (yX8_readText, cX8_readText, 2, (some .int), RX8)
def MX8_fault : Mth := (yX8_fault, cX8_fault, 1, (some .int), RX8)
def MX8_map : Mth := (yX8_map, cX8_map, 2, (some .int), RX8)
def MX8_lineOf : Mth := (yX8_lineOf, cX8_lineOf, 2, (some .int), RX8)
def MX8_guessOf : Mth := (yX8_guessOf, cX8_guessOf, 10, (some .int), RX8)
def MX8_sideOf : Mth := (yX8_sideOf, cX8_sideOf, 7, (some .int), RX8)
def MX8_sides : Mth := (yX8_sides, cX8_sides, 2, (some .int), RX8)
def MX8_comes : Mth := (yX8_comes, cX8_comes, 8, (some .int), RX8)
def MX8_fill : Mth := (yX8_fill, cX8_fill, 7, none, RX8)
def MX8_layOut : Mth := (yX8_layOut, cX8_layOut, 7, none, RX8)
def MX8_missBy : Mth := (yX8_missBy, cX8_missBy, 6, (some .int), RX8)
def MX8_blanks : Mth := (yX8_blanks, cX8_blanks, 3, (some .int), RX8)
def MX8_changeOn : Mth := (yX8_changeOn, cX8_changeOn, 4, none, RX8)
def MX8_bestChange : Mth := (yX8_bestChange, cX8_bestChange, 6, (some .int), RX8)
def MX8_bestShift : Mth := (yX8_bestShift, cX8_bestShift, 7, (some .int), RX8)
def MX8_layOn : Mth := (yX8_layOn, cX8_layOn, 7, (some .boolean), RX8)
def MX8_band : Mth := (yX8_band, cX8_band, 3, (some .int), RX8)
def MX8_about : Mth := (yX8_about, cX8_about, 2, (some .int), RX8)
def MX8_howOften : Mth := (yX8_howOften, cX8_howOften, 4, (some .int), RX8)
def MX8_shade : Mth := (yX8_shade, cX8_shade, 3, (some .int), RX8)
def MX8_shadeAt : Mth := (yX8_shadeAt, cX8_shadeAt, 4, (some .int), RX8)
def MX8_isCell : Mth := (yX8_isCell, cX8_isCell, 3, (some .boolean), RX8)
def MX8_cell : Mth := (yX8_cell, cX8_cell, 3, (some .int), RX8)
def MX8_guess : Mth := (yX8_guess, cX8_guess, 3, (some .int), RX8)
def MX8_dot : Mth := (yX8_dot, cX8_dot, 4, (some .int), RX8)
def MX8_note : Mth := (yX8_note, cX8_note, 2, none, RX8)
def MX8_change : Mth := (yX8_change, cX8_change, 3, (some .int), RX8)
def MX8_move : Mth := (yX8_move, cX8_move, 4, (some .int), RX8)
def MX8_lay : Mth := (yX8_lay, cX8_lay, 2, (some .int), RX8)
def MX8_paint : Mth := (yX8_paint, cX8_paint, 5, (some .int), RX8)
def MX8_shift : Mth := (yX8_shift, cX8_shift, 3, (some .int), RX8)
def MX8_lose : Mth := (yX8_lose, cX8_lose, 2, (some .int), RX8)
def MX8_undo : Mth := (yX8_undo, cX8_undo, 2, (some .int), RX8)
def MX8_miss : Mth := (yX8_miss, cX8_miss, 2, (some .int), RX8)
def MX8_judged : Mth := (yX8_judged, cX8_judged, 4, (some .boolean), RX8)
def MX8_thousands : Mth := (yX8_thousands, cX8_thousands, 4, (some .long), RX8)
def MX8_judge : Mth := (yX8_judge, cX8_judge, 6, (some .int), RX8)
def MX8_see : Mth := (yX8_see, cX8_see, 4, (some .int), RX8)
def MX8_unsee : Mth := (yX8_unsee, cX8_unsee, 2, (some .int), RX8)
def MX8_which : Mth := (yX8_which, cX8_which, 5, (some .int), RX8)
def MX8_share : Mth := (yX8_share, cX8_share, 6, (some .int), RX8)
def MX8_chance : Mth := (yX8_chance, cX8_chance, 6, (some .int), RX8)
def MX8_mean : Mth := (yX8_mean, cX8_mean, 5, (some .int), RX8)
def MX8_seed : Mth := (yX8_seed, cX8_seed, 5, (some .long), RX8)
def MX8_drawn : Mth := (yX8_drawn, cX8_drawn, 5, (some .int), RX8)
def MX8_keep : Mth := (yX8_keep, cX8_keep, 3, (some .int), RX8)
def MX8_again : Mth := (yX8_again, cX8_again, 3, (some .int), RX8)
def MJ9_abs_0f7a4 : Mth := (yJ9_abs_0f7a4, cJ9_abs_0f7a4, 1, (some .int), RJ9)
def MJ9_max_7cf53 : Mth := (yJ9_max_7cf53, cJ9_max_7cf53, 2, (some .int), RJ9)
end
section
/-! THE WORLD. After the two constructors no cell is made: the heap is a tree of final references. A cell is named by its path (field or element numbers, the innermost first). -/
abbrev AV : Type := Int32 ⊕ (Int64 ⊕ (Nat × Nat × List Nat))
abbrev vI (x : Int32) : AV := Sum.inl x
abbrev vL (x : Int64) : AV := Sum.inr (Sum.inl x)
/-- a cell: its kind (0 .. 8 objects by vwCl, 9 int[], 10 boolean[], 11 State[], 13, 14 static arrays), its length, its path -/
abbrev vR (k n : Nat) (p : List Nat) : AV := Sum.inr (Sum.inr (k, n, p))
abbrev Wd : Type := (List Nat → Nat → Int32) × (List Nat → Int64)
/-- launch, class numbers, array classes, addresses, static arrays -/
abbrev Cx : Type := Launch × va_G × (Nat → ClassId) × (List Nat → Nat) × (Nat → Nat)
def adr (X : Cx) (k : Nat) (p : List Nat) : Nat := if k = 13 then X.2.2.2.2 0 else if k = 14 then X.2.2.2.2 1 else X.2.2.2.1 p
def con (X : Cx) : AV → Value
  | .inl x => .int x
  | .inr (.inl x) => .long x
  | .inr (.inr q) => .ref (adr X q.1 q.2.2)
def cat : AV → Nat
  | .inl _ => 1
  | .inr (.inl _) => 2
  | .inr (.inr _) => 1
theorem con_cat (X : Cx) (v : AV) : (con X v).category = cat v := by
  rcases v with x | x | ⟨k, n, p⟩ <;> rfl
theorem con_sum (X : Cx) : ∀ l : List AV, ((l.map (con X)).map fun v => v.category).sum = (l.map cat).sum
  | [] => rfl
  | v :: l => by
    simp only [List.map_cons, List.sum_cons, con_cat]
    rw [con_sum X l]
abbrev cells5 (p : List Nat) : List (List Nat × Nat × Nat) := [(p, 5, 0), (5 :: p, 9, 20), (6 :: p, 9, 20), (7 :: p, 9, 16)]
abbrev cells1 (p : List Nat) : List (List Nat × Nat × Nat) := [(p, 1, 0), (0 :: p, 9, 12), (1 :: p, 9, 12), (2 :: p, 9, 12), (3 :: p, 9, 2)]
def PT0 : List (List Nat × Nat × Nat) := [([], 7, 0), ([0], 6, 0), ([0, 0], 9, 70)] ++ cells5 [1] ++ cells5 [2] ++ [([3], 0, 0), ([0, 3], 11, 14)]
  ++ cells5 [0, 0, 3] ++ cells5 [1, 0, 3] ++ cells5 [2, 0, 3] ++ cells5 [3, 0, 3] ++ cells5 [4, 0, 3] ++ cells5 [5, 0, 3] ++ cells5 [6, 0, 3] ++ cells5 [7, 0, 3] ++ cells5 [8, 0, 3] ++ cells5 [9, 0, 3] ++ cells5 [10, 0, 3] ++ cells5 [11, 0, 3] ++ cells5 [12, 0, 3] ++ cells5 [13, 0, 3]
  ++ [([4], 4, 0), ([0, 4], 11, 2)] ++ cells5 [0, 0, 4] ++ cells5 [1, 0, 4] ++ [([5], 3, 0), ([0, 5], 9, 6), ([1, 5], 9, 6)] ++ cells1 [6] ++ [([7], 2, 0)] ++ cells1 [0, 7] ++ [([1, 7], 9, 16), ([8], 9, 16)]
def PT1 : List (List Nat × Nat × Nat) := [([], 8, 0), ([0], 9, 70), ([5], 9, 38), ([6], 9, 38), ([7], 9, 532), ([10], 9, 76), ([11], 10, 2), ([12], 9, 6), ([13], 9, 6), ([16], 9, 16), ([17], 10, 4), ([18], 9, 16), ([22], 9, 20)]
/-- the cells of a root: 0 the class, 1 the reference -/
def PT (r : Nat) : List (List Nat × Nat × Nat) := match r with
  | 0 => PT0
  | 1 => PT1
  | _ => []
/-- of a class' field: 100 an int, 101 a long, else the kind and the length of the cell that it holds -/
def fk (c k : Nat) : Nat × Nat := match c, k with
  | 0, 0 => (11, 14)
  | 1, 0 => (9, 12)
  | 1, 1 => (9, 12)
  | 1, 2 => (9, 12)
  | 1, 3 => (9, 2)
  | 2, 0 => (1, 0)
  | 2, 1 => (9, 16)
  | 3, 0 => (9, 6)
  | 3, 1 => (9, 6)
  | 4, 0 => (11, 2)
  | 5, 5 => (9, 20)
  | 5, 6 => (9, 20)
  | 5, 7 => (9, 16)
  | 6, 0 => (9, 70)
  | 7, 0 => (6, 0)
  | 7, 1 => (5, 0)
  | 7, 2 => (5, 0)
  | 7, 3 => (0, 0)
  | 7, 4 => (4, 0)
  | 7, 5 => (3, 0)
  | 7, 6 => (1, 0)
  | 7, 7 => (2, 0)
  | 7, 8 => (9, 16)
  | 7, 9 => (101, 0)
  | 8, 0 => (9, 70)
  | 8, 5 => (9, 38)
  | 8, 6 => (9, 38)
  | 8, 7 => (9, 532)
  | 8, 10 => (9, 76)
  | 8, 11 => (10, 2)
  | 8, 12 => (9, 6)
  | 8, 13 => (9, 6)
  | 8, 15 => (101, 0)
  | 8, 16 => (9, 16)
  | 8, 17 => (10, 4)
  | 8, 18 => (9, 16)
  | 8, 22 => (9, 20)
  | _, _ => (100, 0)
/-- how many fields -/
def nf (c : Nat) : Nat := match c with
  | 0 => 3
  | 1 => 4
  | 2 => 3
  | 3 => 3
  | 4 => 2
  | 5 => 8
  | 6 => 2
  | 7 => 10
  | 8 => 25
  | _ => 0
def fv (X : Cx) (w : Wd) (p : List Nat) (c k : Nat) : Value := if (fk c k).1 = 100 then .int (w.1 p k) else if (fk c k).1 = 101 then .long (w.2 p) else .ref (X.2.2.2.1 (k :: p))
def cellE (X : Cx) (w : Wd) (e : List Nat × Nat × Nat) : Nat × va_E := (X.2.2.2.1 e.1, if e.2.1 < 9 then .inr (e.2.1, (List.range (nf e.2.1)).map (fv X w e.1 e.2.1)) else if e.2.1 = 11 then .inl (X.2.2.1 2, e.2.2, .inr (.inr (.inr (.inr (fun i => some (X.2.2.2.1 (i :: e.1))))))) else .inl (X.2.2.1 (e.2.1 - 9), e.2.2, .inl (w.1 e.1)))
def wld (X : Cx) (r : Nat) (w : Wd) : va_W := (PT r).map (cellE X w)
def tysX (X : Cx) : List (ClassId × FieldType) := [(X.2.2.1 0, .int), (X.2.2.1 1, .boolean), (X.2.2.1 2, .object "TwoHalves$State")]
def Ar (X : Cx) (r : Nat) : Nat → Prop := fun q => ∃ e ∈ PT r, X.2.2.2.1 e.1 = q
/-- a cell's contents set anew -/
def uA (w : Wd) (p : List Nat) (f : Nat → Int32) : Wd := (fun q => if q = p then f else w.1 q, w.2)
def uI (w : Wd) (p : List Nat) (k : Nat) (v : Int32) : Wd := uA w p (upd (w.1 p) k v)
def uL (w : Wd) (p : List Nat) (v : Int64) : Wd := (w.1, fun q => if q = p then v else w.2 q)
theorem uA_same (w : Wd) (p : List Nat) (f : Nat → Int32) : (uA w p f).1 p = f := by simp [uA]
theorem uA_ne {w : Wd} {p q : List Nat} {f : Nat → Int32} (h : q ≠ p) : (uA w p f).1 q = w.1 q := by simp [uA, h]
theorem PT_nd : ∀ r, va_nd ((PT r).map (fun e => e.1.foldl (fun a b => 100 * a + b + 1) 0)) = true := by
  intro r
  match r with
  | 0 => decide +kernel
  | 1 => decide +kernel
  | _ + 2 => rfl
theorem PT_inj {r i j : Nat} {a b : List Nat × Nat × Nat} (hi : (PT r)[i]? = some a) (hj : (PT r)[j]? = some b) (h : a.1 = b.1) : i = j := by
  refine va_nd_inj _ (PT_nd r) i j (a.1.foldl (fun a b => 100 * a + b + 1) 0) ?_ ?_
  · rw [List.getElem?_map, hi]; rfl
  · rw [List.getElem?_map, hj, h]; rfl
theorem wld_at {X : Cx} {r : Nat} {w : Wd} {e : List Nat × Nat × Nat} (h : e ∈ PT r) : ∃ i : Nat, (PT r)[i]? = some e ∧ (wld X r w)[i]? = some (cellE X w e) := by
  obtain ⟨i, hi⟩ := List.mem_iff_getElem?.mp h
  exact ⟨i, hi, by rw [wld, List.getElem?_map, hi]; rfl⟩
theorem cellE_cg {X : Cx} {w w' : Wd} {e : List Nat × Nat × Nat} (h1 : w'.1 e.1 = w.1 e.1) (h2 : w'.2 e.1 = w.2 e.1) : cellE X w' e = cellE X w e := by
  have h3 : fv X w' e.1 e.2.1 = fv X w e.1 e.2.1 := by
    funext k
    unfold fv
    rw [h1, h2]
  unfold cellE
  rw [h1, h3]
theorem wld_set {X : Cx} {r i : Nat} {w w' : Wd} {e : List Nat × Nat × Nat} (hi : (PT r)[i]? = some e) (h : ∀ q, q ≠ e.1 → w'.1 q = w.1 q ∧ w'.2 q = w.2 q) : (wld X r w).set i (cellE X w' e) = wld X r w' := by
  apply List.ext_getElem?
  intro j
  by_cases hj : i = j
  · subst hj
    rw [List.getElem?_set_self' ]
    simp only [wld, List.getElem?_map, hi, Option.map_some]
    rfl
  · rw [List.getElem?_set_ne hj]
    simp only [wld, List.getElem?_map]
    cases hq : (PT r)[j]? with
    | none => rfl
    | some a =>
      simp only [Option.map_some]
      have hne : a.1 ≠ e.1 := fun h2 => hj (PT_inj hi hq h2.symm)
      rw [cellE_cg (h a.1 hne).1 (h a.1 hne).2]
/-! words -/
def nestW : Cond → Bool
  | .fieldLinkNest .. => true
  | .methodLinkNest .. => true
  | _ => false
def tbG : List Cond := lw_tbl.filter goodWord
def tbN : List Cond := lw_tbl.filter nestW
theorem tbG_good : GoodIn tbG tbG := fun _ h => ⟨h, good_of_word (List.mem_filter.mp h).2⟩
theorem tg {w : Cond} (i : Nat) (h : tables_1[i]? = some w) (g : goodWord w = true) : w ∈ tbG := List.mem_filter.mpr ⟨List.mem_append_right _ (List.mem_of_getElem? h), g⟩
theorem tn {w : Cond} (i : Nat) (h : tables_1[i]? = some w) (g : nestW w = true) : w ∈ tbN := List.mem_filter.mpr ⟨List.mem_append_right _ (List.mem_of_getElem? h), g⟩
theorem tsl {q : MethodName × Nat} (i : Nat) (h : lw_privs[i]? = some q) : Cond.selects q.1.cls q.1 q.1 ∈ tbG :=
  List.mem_filter.mpr ⟨List.mem_append_left _ (List.mem_map.mpr ⟨q, List.mem_of_getElem? h, rfl⟩), rfl⟩
abbrev mW (M : Mth) : List Cond := Cond.code M.1 M.2.1 M.2.2.1 M.2.2.2.1 :: tbG
def Ns (U : State) : Prop := ∀ w ∈ tbN, va_Nw w U
theorem Ns.warm {s U : State} (hW : s.WarmedH U.vm) (h : Ns s) : Ns U := fun w hw => by
  have h1 := h w hw
  have h2 := (List.mem_filter.mp hw).2
  cases w <;> first | exact va_Nw.warmF hW h1 | exact va_Nw.warmM hW h1 | (simp [nestW] at h2)
theorem Ns.same {u U : State} (hv : u.vm = U.vm) (h : Ns u) : Ns U := fun w hw => by
  have h1 := h w hw
  have h2 := (List.mem_filter.mp hw).2
  cases w <;> first | exact va_Nw.same rfl hv h1 | (simp [nestW] at h2)
/-! the two static arrays -/
def dE : Nat → Value := fun k => match k with
  | 0 => .long 1
  | 1 => .long 1000
  | 2 => .long 1000000
  | 3 => .long 1000000000
  | _ => .long 1000000000000
def oB : Nat → Value := fun k => match k with
  | 0 => .int 0
  | 1 => .int 6
  | 2 => .int 2
  | 3 => .int 2
  | _ => .int 6
def Sx (X : Cx) (r : Nat) (U : State) (H : Heap) : Prop := va_Z "TwoHalves" "DOINGS_END" "[J" (.ref (X.2.2.2.2 0)) (Ar X r) U H ∧ va_T .long (X.2.2.2.2 0) 5 dE (Ar X r) U H ∧ va_Z "TwoHalves" "ORDERS_BY_LOST" "[I" (.ref (X.2.2.2.2 1)) (Ar X r) U H ∧ va_T .int (X.2.2.2.2 1) 5 oB (Ar X r) U H
theorem Sx.go {X : Cx} {r : Nat} {u U : State} {H H1 : Heap} (h : Sx X r u H) (hvm : u.vm.Alike U.vm) (hq : ∀ a : Nat, a < H.size → ¬ Ar X r a → H1[a]? = H[a]?) : Sx X r U H1 :=
  ⟨(h.1.moved hvm).kept hq, (h.2.1.moved hvm).kept hq, (h.2.2.1.moved hvm).kept hq, (h.2.2.2.moved hvm).kept hq⟩
def okv (r : Nat) : AV → Prop
  | .inl _ => True
  | .inr (.inl _) => True
  | .inr (.inr q) => (q.1 = 13 ∧ q.2.1 = 5) ∨ (q.1 = 14 ∧ q.2.1 = 5) ∨ (q.1 < 13 ∧ (q.2.2, q.1, q.2.1) ∈ PT r)
def okl (r : Nat) (l : List AV) : Prop := ∀ v ∈ l, okv r v
theorem okl.hd {r : Nat} {v : AV} {l : List AV} (h : okl r (v :: l)) : okv r v := h v List.mem_cons_self
theorem okl.tl {r : Nat} {v : AV} {l : List AV} (h : okl r (v :: l)) : okl r l := fun x hx => h x (List.mem_cons_of_mem _ hx)
theorem okl.cons {r : Nat} {v : AV} {l : List AV} (hv : okv r v) (h : okl r l) : okl r (v :: l) := fun x hx => by
  rcases List.mem_cons.mp hx with rfl | hx
  · exact hv
  · exact h x hx
theorem okl.i {r : Nat} {x : Int32} {l : List AV} (h : okl r l) : okl r (vI x :: l) := okl.cons trivial h
theorem okl.l {r : Nat} {x : Int64} {l : List AV} (h : okl r l) : okl r (vL x :: l) := okl.cons trivial h
theorem okl.nil {r : Nat} : okl r [] := fun x hx => by cases hx
/-! locals -/
abbrev Lo : Type := List (Nat × AV)
def okL (r : Nat) (l : Lo) : Prop := ∀ q ∈ l, okv r q.2
def cnL (X : Cx) (l : Lo) : List (Nat × Value) := l.map (fun q => (q.1, con X q.2))
def lgt (l : Lo) (k : Nat) : Option AV := (l.find? (fun q => q.1 == k)).map (fun q => q.2)
/-- a local of one word set anew -/
def st1 (l : Lo) (i : Nat) (v : AV) : Lo := (i, v) :: l.filter (fun q => !(q.1 == i) && !(q.1 + 1 == i && cat q.2 == 2))
def st2 (l : Lo) (i : Nat) (v : AV) : Lo := (i, v) :: l.filter (fun q => !(q.1 == i) && (!(q.1 == i + 1) && !(q.1 + 1 == i && cat q.2 == 2)))
theorem lgt_mem {l : Lo} {k : Nat} {v : AV} (h : lgt l k = some v) : (k, v) ∈ l := by
  unfold lgt at h
  cases hf : l.find? (fun q => q.1 == k) with
  | none => rw [hf] at h; cases h
  | some q =>
    rw [hf] at h
    have h1 := List.mem_of_find?_eq_some hf
    have h2 := List.find?_some hf
    simp at h2 h
    subst h2; subst h
    exact h1
theorem lgt_at {X : Cx} {l : Lo} {k n : Nat} {v : AV} {ls : Array Slot} (h : lgt l k = some v) (hl : lv_has ls n (cnL X l)) : ls[k]? = some (.val (con X v)) :=
  hl.2.2 (k, con X v) (List.mem_map.mpr ⟨(k, v), lgt_mem h, rfl⟩)
theorem lgt_ok {r : Nat} {l : Lo} {k : Nat} {v : AV} (h : lgt l k = some v) (hl : okL r l) : okv r v := hl _ (lgt_mem h)
theorem cnL_filter (X : Cx) (f : Nat → Nat → Bool) : ∀ l : Lo, (cnL X l).filter (fun q => f q.1 q.2.category) = cnL X (l.filter (fun q => f q.1 (cat q.2)))
  | [] => rfl
  | q :: l => by
    have ih := cnL_filter X f l
    simp only [cnL, List.map_cons, List.filter_cons, con_cat] at ih ⊢
    split
    · rw [List.map_cons, ih]
    · exact ih
theorem cnL_st1 (X : Cx) (l : Lo) (i : Nat) (v : AV) : (i, con X v) :: (cnL X l).filter (fun q => !(q.1 == i) && !(q.1 + 1 == i && q.2.category == 2)) = cnL X (st1 l i v) := by
  rw [cnL_filter X (fun a b => !(a == i) && !(a + 1 == i && b == 2)) l]
  rfl
theorem cnL_st2 (X : Cx) (l : Lo) (i : Nat) (v : AV) : (i, con X v) :: (cnL X l).filter (fun q => !(q.1 == i) && (!(q.1 == i + 1) && !(q.1 + 1 == i && q.2.category == 2))) = cnL X (st2 l i v) := by
  rw [cnL_filter X (fun a b => !(a == i) && (!(a == i + 1) && !(a + 1 == i && b == 2))) l]
  rfl
theorem okL_st1 {r : Nat} {l : Lo} {i : Nat} {v : AV} (hv : okv r v) (h : okL r l) : okL r (st1 l i v) := fun q hq => by
  rcases List.mem_cons.mp hq with rfl | hq
  · exact hv
  · exact h q (List.mem_filter.mp hq).1
theorem okL_st2 {r : Nat} {l : Lo} {i : Nat} {v : AV} (hv : okv r v) (h : okL r l) : okL r (st2 l i v) := fun q hq => by
  rcases List.mem_cons.mp hq with rfl | hq
  · exact hv
  · exact h q (List.mem_filter.mp hq).1
/-! the judgements -/
def rmD (d : Nat) : Room := { frames := d, cells := 0, slots := 0, locals := 40 * d }
def Bd (X : Cx) (r : Nat) (M : Mth) (p : Program) (s : State) (m : MethodId) (args : Array Value) (meth : Method) (c : Code) : Prop :=
  p.tables.exec = Jvm.exec ∧ c.code = M.2.1 ∧ c.maxLocals = M.2.2.1 ∧ meth.sig.returnType = M.2.2.2.1 ∧ meth.locks = false ∧ s.vm.findClass M.2.2.2.2 = some m.cls ∧ (∀ w ∈ tbG, w.before args s = true) ∧ va_K X.2.1 vwCl (tysX X) s ∧ Ns s ∧ Sx X r s s.heap
def Wl (X : Cx) (r : Nat) (w : Wd) (U : State) : Prop := va_P X.2.1 vwCl (wld X r w) U.heap ∧ va_D (Ar X r) (wld X r w) ∧ va_K X.2.1 vwCl (tysX X) U ∧ Ns U ∧ Sx X r U U.heap
def Qres (X : Cx) (r : Nat) (Q : Option AV → Wd → Prop) : Array Value → State → Outcome → State → Prop := fun _ st oc t => (∃ (rv : Option AV) (w' : Wd), oc = .returned (rv.map (con X)) ∧ Q rv w' ∧ okl r rv.toList ∧ va_P X.2.1 vwCl (wld X r w') t.heap ∧ va_D (Ar X r) (wld X r w')) ∧ va_F (Ar X r) st t
/-- from pc, with these locals, this stack and this world, the method ends with Q -/
def Wq (X : Cx) (r d : Nat) (M : Mth) (pc : Nat) (loc : Lo) (stk : List AV) (w : Wd) (Q : Option AV → Wd → Prop) : Prop :=
  okL r loc → okl r stk → ∀ (p : Program) (e : Env) (s : State) (m : MethodId) (args : Array Value) (below : List Frame) (meth : Method) (c : Code) (H : Heap) (locs : List Loc) (ls : Array Slot),
    Bd X r M p s m args meth c → va_P X.2.1 vwCl (wld X r w) H → va_D (Ar X r) (wld X r w) → va_S (Ar X r) s.heap H locs → lv_has ls M.2.2.1 (cnL X loc) →
    W p X.1 e (rmD d) s m args below meth c H locs 0 0 (MQ below (Qres X r Q) args s 0 0 (Ar X r)) (F0 m pc ls (stk.map (con X)))
/-- a contract: with these arguments in this world the method ends with Q -/
def Ct (X : Cx) (r d : Nat) (M : Mth) (as : List AV) (w : Wd) (Q : Option AV → Wd → Prop) : Prop :=
  okl r as → Met X.1 M.1 (mW M) (rmD d) (va_Pc (as.map (con X)) (Wl X r w)) (Qres X r Q) 0 0 (Ar X r)
def argl : Nat → List AV → Lo
  | _, [] => []
  | i, v :: vs => (i, v) :: argl (if cat v = 2 then i + 2 else i + 1) vs
theorem argl_ok {r : Nat} : ∀ (vs : List AV) (i : Nat), okl r vs → okL r (argl i vs)
  | [], _, _ => fun q hq => by cases hq
  | v :: vs, i, h => fun q hq => by
    rcases List.mem_cons.mp hq with rfl | hq
    · exact h.hd
    · exact argl_ok vs _ h.tl q hq
theorem argl_cn (X : Cx) : ∀ (vs : List AV) (i : Nat), lv_args i (vs.map (con X)) = cnL X (argl i vs)
  | [], _ => rfl
  | v :: vs, i => by
    show (i, con X v) :: lv_args _ (vs.map (con X)) = (i, con X v) :: cnL X (argl _ vs)
    rw [con_cat, argl_cn X vs]
theorem lg_sl_len (X : Cx) : ∀ (vs : List AV), (lg_sl (vs.map (con X))).length = (vs.map cat).sum
  | [] => rfl
  | v :: vs => by
    have ih := lg_sl_len X vs
    have h1 : lg_sl ((v :: vs).map (con X)) = (if (con X v).category = 2 then [Slot.val (con X v), Slot.second] else [Slot.val (con X v)]) ++ lg_sl (vs.map (con X)) := by
      simp [lg_sl]
    rw [h1, List.length_append, ih, con_cat, List.map_cons, List.sum_cons]
    rcases v with x | x | q <;> rfl
theorem Ct.of {X : Cx} {r d : Nat} {M : Mth} {as : List AV} {w : Wd} {Q : Option AV → Wd → Prop} (hy : plainName M.1.cls = true) (ho : M.1.cls = M.2.2.2.2) (hn : (as.map cat).sum ≤ M.2.2.1) (k : Wq X r d M 0 (argl 0 as) [] w Q) : Ct X r d M as w Q := by
  intro hok
  refine Met.ofW (cc := M.2.1) (maxL := M.2.2.1) (ret := M.2.2.2.1) hy rfl ?_
  intro p e s m args below meth c s₁ B hml hv
  obtain ⟨rfl, hP, hD, hK, hN, hX⟩ := hv
  have hts := atoms_spec (ws := mW M) B.pre
  have hown : s.vm.findClass M.1.cls = some m.cls := findClass_of_methodNamed B.named
  have hl := lv_entry (as.map (con X)) (n := M.2.2.1) (by rw [lg_sl_len]; exact hn)
  rw [lg_entry_eq]
  rw [argl_cn] at hl
  exact k (argl_ok as 0 hok) okl.nil p e s m _ below meth c s.heap [] _ ⟨B.exec, B.bytes, hml, B.returns, B.notSynchronized, ho ▸ hown, fun w hw => hts w (List.mem_cons_of_mem _ hw), hK, hN, hX⟩ hP hD va_S.rf hl
end
section
section RU
variable {X : Cx} {r d : Nat} {M : Mth} {pc q : Nat} {loc : Lo} {stk : List AV} {w : Wd} {Q : Option AV → Wd → Prop}
theorem R_iload_n {k : Fin 4} {i : Nat} {x : Int32} (hd : decode M.2.1 pc = .ok (.iload_n k, 1)) (hi : (k : Nat) = i) (hg : lgt loc i = some (vI x)) (hq : pc + 1 = q) (k : Wq X r d M q loc (vI x :: stk) w Q) : Wq X r d M pc loc (stk) w Q := by
  subst hq
  intro h1 h2 p e s m args below meth c H locs ls B hP hD hS hl
  exact lv_iload_n (x := x) (rest := stk.map (con X)) B.1 B.2.1 hd hi (lgt_at hg hl) (k h1 h2.i p e s m args below meth c H locs ls B hP hD hS hl)
theorem R_iload {i : Nat} {x : Int32} (hd : decode M.2.1 pc = .ok (.iload i, 2)) (hg : lgt loc i = some (vI x)) (hq : pc + 2 = q) (k : Wq X r d M q loc (vI x :: stk) w Q) : Wq X r d M pc loc (stk) w Q := by
  subst hq
  intro h1 h2 p e s m args below meth c H locs ls B hP hD hS hl
  exact lv_iload (x := x) (rest := stk.map (con X)) B.1 B.2.1 hd (lgt_at hg hl) (k h1 h2.i p e s m args below meth c H locs ls B hP hD hS hl)
theorem R_lload_n {k : Fin 4} {i : Nat} {x : Int64} (hd : decode M.2.1 pc = .ok (.lload_n k, 1)) (hi : (k : Nat) = i) (hg : lgt loc i = some (vL x)) (hq : pc + 1 = q) (k : Wq X r d M q loc (vL x :: stk) w Q) : Wq X r d M pc loc (stk) w Q := by
  subst hq
  intro h1 h2 p e s m args below meth c H locs ls B hP hD hS hl
  exact lv_lload_n (x := x) (rest := stk.map (con X)) B.1 B.2.1 hd hi (lgt_at hg hl) (k h1 h2.l p e s m args below meth c H locs ls B hP hD hS hl)
theorem R_lload {i : Nat} {x : Int64} (hd : decode M.2.1 pc = .ok (.lload i, 2)) (hg : lgt loc i = some (vL x)) (hq : pc + 2 = q) (k : Wq X r d M q loc (vL x :: stk) w Q) : Wq X r d M pc loc (stk) w Q := by
  subst hq
  intro h1 h2 p e s m args below meth c H locs ls B hP hD hS hl
  exact lv_lload (x := x) (rest := stk.map (con X)) B.1 B.2.1 hd (lgt_at hg hl) (k h1 h2.l p e s m args below meth c H locs ls B hP hD hS hl)
theorem R_aload_n {k : Fin 4} {i a n : Nat} {pa : List Nat} (hd : decode M.2.1 pc = .ok (.aload_n k, 1)) (hi : (k : Nat) = i) (hg : lgt loc i = some (vR a n pa)) (hq : pc + 1 = q) (k : Wq X r d M q loc (vR a n pa :: stk) w Q) : Wq X r d M pc loc (stk) w Q := by
  subst hq
  intro h1 h2 p e s m args below meth c H locs ls B hP hD hS hl
  exact lv_aload_n (x := adr X a pa) (rest := stk.map (con X)) B.1 B.2.1 hd hi (lgt_at hg hl) (k h1 (okl.cons (lgt_ok hg h1) h2) p e s m args below meth c H locs ls B hP hD hS hl)
theorem R_iconst {n : Int} {v : Int32} (hd : decode M.2.1 pc = .ok (.iconst n, 1)) (hv : Int32.ofInt n = v) (hq : pc + 1 = q) (k : Wq X r d M q loc (vI v :: stk) w Q) : Wq X r d M pc loc (stk) w Q := by
  subst hq
  intro h1 h2 p e s m args below meth c H locs ls B hP hD hS hl
  exact lv_iconst (rest := stk.map (con X)) B.1 B.2.1 hd hv (k h1 h2.i p e s m args below meth c H locs ls B hP hD hS hl)
theorem R_bipush {n : Int} {v : Int32} (hd : decode M.2.1 pc = .ok (.bipush n, 2)) (hv : (Int8.ofInt n).toInt32 = v) (hq : pc + 2 = q) (k : Wq X r d M q loc (vI v :: stk) w Q) : Wq X r d M pc loc (stk) w Q := by
  subst hq
  intro h1 h2 p e s m args below meth c H locs ls B hP hD hS hl
  exact lv_bipush (rest := stk.map (con X)) B.1 B.2.1 hd hv (k h1 h2.i p e s m args below meth c H locs ls B hP hD hS hl)
theorem R_sipush {n : Int} {v : Int32} (hd : decode M.2.1 pc = .ok (.sipush n, 3)) (hv : (Int16.ofInt n).toInt32 = v) (hq : pc + 3 = q) (k : Wq X r d M q loc (vI v :: stk) w Q) : Wq X r d M pc loc (stk) w Q := by
  subst hq
  intro h1 h2 p e s m args below meth c H locs ls B hP hD hS hl
  exact lv_sipush (rest := stk.map (con X)) B.1 B.2.1 hd hv (k h1 h2.i p e s m args below meth c H locs ls B hP hD hS hl)
theorem R_lconst {n : Fin 2} {v : Int64} (hd : decode M.2.1 pc = .ok (.lconst n, 1)) (hv : Int64.ofNat (n : Nat) = v) (hq : pc + 1 = q) (k : Wq X r d M q loc (vL v :: stk) w Q) : Wq X r d M pc loc (stk) w Q := by
  subst hq
  intro h1 h2 p e s m args below meth c H locs ls B hP hD hS hl
  exact lv_lconst (rest := stk.map (con X)) B.1 B.2.1 hd hv (k h1 h2.l p e s m args below meth c H locs ls B hP hD hS hl)
theorem R_ldcw {i : Nat} {v : Int32} (hd : decode M.2.1 pc = .ok (.ldc_w i, 3)) (hc : Cond.constant M.2.2.2.2 i v ∈ tbG) (hq : pc + 3 = q) (k : Wq X r d M q loc (vI v :: stk) w Q) : Wq X r d M pc loc stk w Q := by
  subst hq
  intro h1 h2 p e s m args below meth c H locs ls B hP hD hS hl
  exact lv_ldcw (rest := stk.map (con X)) B.1 B.2.1 B.2.2.2.2.2.1 (B.2.2.2.2.2.2.1 _ hc) hd (k h1 h2.i p e s m args below meth c H locs ls B hP hD hS hl)
theorem R_ldc2 {i : Nat} {v : Int64} (hd : decode M.2.1 pc = .ok (.ldc2_w i, 3)) (hc : Cond.constantLong M.2.2.2.2 i v ∈ tbG) (hq : pc + 3 = q) (k : Wq X r d M q loc (vL v :: stk) w Q) : Wq X r d M pc loc stk w Q := by
  subst hq
  intro h1 h2 p e s m args below meth c H locs ls B hP hD hS hl
  exact lv_ldc2 (rest := stk.map (con X)) B.1 B.2.1 B.2.2.2.2.2.1 (B.2.2.2.2.2.2.1 _ hc) hd (k h1 h2.l p e s m args below meth c H locs ls B hP hD hS hl)
theorem R_iadd {x y : Int32} (hd : decode M.2.1 pc = .ok (.iadd, 1))  (hq : pc + 1 = q) (k : Wq X r d M q loc (vI (x + y) :: stk) w Q) : Wq X r d M pc loc (vI y :: vI x :: stk) w Q := by
  subst hq
  intro h1 h2 p e s m args below meth c H locs ls B hP hD hS hl
  exact lv_iadd (rest := stk.map (con X)) B.1 B.2.1 hd  (k h1 h2.tl.tl.i p e s m args below meth c H locs ls B hP hD hS hl)
theorem R_isub {x y : Int32} (hd : decode M.2.1 pc = .ok (.isub, 1))  (hq : pc + 1 = q) (k : Wq X r d M q loc (vI (x - y) :: stk) w Q) : Wq X r d M pc loc (vI y :: vI x :: stk) w Q := by
  subst hq
  intro h1 h2 p e s m args below meth c H locs ls B hP hD hS hl
  exact lv_isub (rest := stk.map (con X)) B.1 B.2.1 hd  (k h1 h2.tl.tl.i p e s m args below meth c H locs ls B hP hD hS hl)
theorem R_imul {x y : Int32} (hd : decode M.2.1 pc = .ok (.imul, 1))  (hq : pc + 1 = q) (k : Wq X r d M q loc (vI (x * y) :: stk) w Q) : Wq X r d M pc loc (vI y :: vI x :: stk) w Q := by
  subst hq
  intro h1 h2 p e s m args below meth c H locs ls B hP hD hS hl
  exact lv_imul (rest := stk.map (con X)) B.1 B.2.1 hd  (k h1 h2.tl.tl.i p e s m args below meth c H locs ls B hP hD hS hl)
theorem R_iand {x y : Int32} (hd : decode M.2.1 pc = .ok (.iand, 1))  (hq : pc + 1 = q) (k : Wq X r d M q loc (vI (x &&& y) :: stk) w Q) : Wq X r d M pc loc (vI y :: vI x :: stk) w Q := by
  subst hq
  intro h1 h2 p e s m args below meth c H locs ls B hP hD hS hl
  exact lv_iand (rest := stk.map (con X)) B.1 B.2.1 hd  (k h1 h2.tl.tl.i p e s m args below meth c H locs ls B hP hD hS hl)
theorem R_ior {x y : Int32} (hd : decode M.2.1 pc = .ok (.ior, 1))  (hq : pc + 1 = q) (k : Wq X r d M q loc (vI (x ||| y) :: stk) w Q) : Wq X r d M pc loc (vI y :: vI x :: stk) w Q := by
  subst hq
  intro h1 h2 p e s m args below meth c H locs ls B hP hD hS hl
  exact lv_ior (rest := stk.map (con X)) B.1 B.2.1 hd  (k h1 h2.tl.tl.i p e s m args below meth c H locs ls B hP hD hS hl)
theorem R_ixor {x y : Int32} (hd : decode M.2.1 pc = .ok (.ixor, 1))  (hq : pc + 1 = q) (k : Wq X r d M q loc (vI (x ^^^ y) :: stk) w Q) : Wq X r d M pc loc (vI y :: vI x :: stk) w Q := by
  subst hq
  intro h1 h2 p e s m args below meth c H locs ls B hP hD hS hl
  exact lv_ixor (rest := stk.map (con X)) B.1 B.2.1 hd  (k h1 h2.tl.tl.i p e s m args below meth c H locs ls B hP hD hS hl)
theorem R_ishl {x y : Int32} (hd : decode M.2.1 pc = .ok (.ishl, 1))  (hq : pc + 1 = q) (k : Wq X r d M q loc (vI (x <<< (y &&& 31)) :: stk) w Q) : Wq X r d M pc loc (vI y :: vI x :: stk) w Q := by
  subst hq
  intro h1 h2 p e s m args below meth c H locs ls B hP hD hS hl
  exact lv_ishl (rest := stk.map (con X)) B.1 B.2.1 hd  (k h1 h2.tl.tl.i p e s m args below meth c H locs ls B hP hD hS hl)
theorem R_ishr {x y : Int32} (hd : decode M.2.1 pc = .ok (.ishr, 1))  (hq : pc + 1 = q) (k : Wq X r d M q loc (vI (x >>> (y &&& 31)) :: stk) w Q) : Wq X r d M pc loc (vI y :: vI x :: stk) w Q := by
  subst hq
  intro h1 h2 p e s m args below meth c H locs ls B hP hD hS hl
  exact lv_ishr (rest := stk.map (con X)) B.1 B.2.1 hd  (k h1 h2.tl.tl.i p e s m args below meth c H locs ls B hP hD hS hl)
theorem R_idiv {x y : Int32} (hd : decode M.2.1 pc = .ok (.idiv, 1)) (hne : ¬ y = 0) (hq : pc + 1 = q) (k : Wq X r d M q loc (vI (x / y) :: stk) w Q) : Wq X r d M pc loc (vI y :: vI x :: stk) w Q := by
  subst hq
  intro h1 h2 p e s m args below meth c H locs ls B hP hD hS hl
  exact lv_idiv (rest := stk.map (con X)) B.1 B.2.1 hd hne (k h1 h2.tl.tl.i p e s m args below meth c H locs ls B hP hD hS hl)
theorem R_irem {x y : Int32} (hd : decode M.2.1 pc = .ok (.irem, 1)) (hne : ¬ y = 0) (hq : pc + 1 = q) (k : Wq X r d M q loc (vI (x - x / y * y) :: stk) w Q) : Wq X r d M pc loc (vI y :: vI x :: stk) w Q := by
  subst hq
  intro h1 h2 p e s m args below meth c H locs ls B hP hD hS hl
  exact lv_irem (rest := stk.map (con X)) B.1 B.2.1 hd hne (k h1 h2.tl.tl.i p e s m args below meth c H locs ls B hP hD hS hl)
theorem R_iushr {x y : Int32} (hd : decode M.2.1 pc = .ok (.iushr, 1))  (hq : pc + 1 = q) (k : Wq X r d M q loc (vI ((x.toUInt32 >>> (y.toUInt32 &&& Int32.toUInt32 31)).toInt32) :: stk) w Q) : Wq X r d M pc loc (vI y :: vI x :: stk) w Q := by
  subst hq
  intro h1 h2 p e s m args below meth c H locs ls B hP hD hS hl
  exact lv_iushr (rest := stk.map (con X)) B.1 B.2.1 hd rfl (k h1 h2.tl.tl.i p e s m args below meth c H locs ls B hP hD hS hl)
theorem R_ineg {x : Int32} (hd : decode M.2.1 pc = .ok (.ineg, 1))  (hq : pc + 1 = q) (k : Wq X r d M q loc (vI (-x) :: stk) w Q) : Wq X r d M pc loc (vI x :: stk) w Q := by
  subst hq
  intro h1 h2 p e s m args below meth c H locs ls B hP hD hS hl
  exact lv_ineg (rest := stk.map (con X)) B.1 B.2.1 hd  (k h1 h2.tl.i p e s m args below meth c H locs ls B hP hD hS hl)
theorem R_i2l {x : Int32} (hd : decode M.2.1 pc = .ok (.i2l, 1))  (hq : pc + 1 = q) (k : Wq X r d M q loc (vL x.toInt64 :: stk) w Q) : Wq X r d M pc loc (vI x :: stk) w Q := by
  subst hq
  intro h1 h2 p e s m args below meth c H locs ls B hP hD hS hl
  exact lv_i2l (rest := stk.map (con X)) B.1 B.2.1 hd rfl (k h1 h2.tl.l p e s m args below meth c H locs ls B hP hD hS hl)
theorem R_l2i {x : Int64} (hd : decode M.2.1 pc = .ok (.l2i, 1))  (hq : pc + 1 = q) (k : Wq X r d M q loc (vI x.toInt32 :: stk) w Q) : Wq X r d M pc loc (vL x :: stk) w Q := by
  subst hq
  intro h1 h2 p e s m args below meth c H locs ls B hP hD hS hl
  exact lv_l2i (rest := stk.map (con X)) B.1 B.2.1 hd rfl (k h1 h2.tl.i p e s m args below meth c H locs ls B hP hD hS hl)
theorem R_ladd {x y : Int64} (hd : decode M.2.1 pc = .ok (.ladd, 1))  (hq : pc + 1 = q) (k : Wq X r d M q loc (vL (x + y) :: stk) w Q) : Wq X r d M pc loc (vL y :: vL x :: stk) w Q := by
  subst hq
  intro h1 h2 p e s m args below meth c H locs ls B hP hD hS hl
  exact lv_ladd (rest := stk.map (con X)) B.1 B.2.1 hd  (k h1 h2.tl.tl.l p e s m args below meth c H locs ls B hP hD hS hl)
theorem R_lsub {x y : Int64} (hd : decode M.2.1 pc = .ok (.lsub, 1))  (hq : pc + 1 = q) (k : Wq X r d M q loc (vL (x - y) :: stk) w Q) : Wq X r d M pc loc (vL y :: vL x :: stk) w Q := by
  subst hq
  intro h1 h2 p e s m args below meth c H locs ls B hP hD hS hl
  exact lv_lsub (rest := stk.map (con X)) B.1 B.2.1 hd  (k h1 h2.tl.tl.l p e s m args below meth c H locs ls B hP hD hS hl)
theorem R_lmul {x y : Int64} (hd : decode M.2.1 pc = .ok (.lmul, 1))  (hq : pc + 1 = q) (k : Wq X r d M q loc (vL (x * y) :: stk) w Q) : Wq X r d M pc loc (vL y :: vL x :: stk) w Q := by
  subst hq
  intro h1 h2 p e s m args below meth c H locs ls B hP hD hS hl
  exact lv_lmul (rest := stk.map (con X)) B.1 B.2.1 hd  (k h1 h2.tl.tl.l p e s m args below meth c H locs ls B hP hD hS hl)
theorem R_land {x y : Int64} (hd : decode M.2.1 pc = .ok (.land, 1))  (hq : pc + 1 = q) (k : Wq X r d M q loc (vL (x &&& y) :: stk) w Q) : Wq X r d M pc loc (vL y :: vL x :: stk) w Q := by
  subst hq
  intro h1 h2 p e s m args below meth c H locs ls B hP hD hS hl
  exact lv_land (rest := stk.map (con X)) B.1 B.2.1 hd  (k h1 h2.tl.tl.l p e s m args below meth c H locs ls B hP hD hS hl)
theorem R_lor {x y : Int64} (hd : decode M.2.1 pc = .ok (.lor, 1))  (hq : pc + 1 = q) (k : Wq X r d M q loc (vL (x ||| y) :: stk) w Q) : Wq X r d M pc loc (vL y :: vL x :: stk) w Q := by
  subst hq
  intro h1 h2 p e s m args below meth c H locs ls B hP hD hS hl
  exact lv_lor (rest := stk.map (con X)) B.1 B.2.1 hd  (k h1 h2.tl.tl.l p e s m args below meth c H locs ls B hP hD hS hl)
theorem R_ldiv {x y : Int64} (hd : decode M.2.1 pc = .ok (.ldiv, 1)) (hne : ¬ y = 0) (hq : pc + 1 = q) (k : Wq X r d M q loc (vL (x / y) :: stk) w Q) : Wq X r d M pc loc (vL y :: vL x :: stk) w Q := by
  subst hq
  intro h1 h2 p e s m args below meth c H locs ls B hP hD hS hl
  exact lv_ldiv (rest := stk.map (con X)) B.1 B.2.1 hd hne (k h1 h2.tl.tl.l p e s m args below meth c H locs ls B hP hD hS hl)
theorem R_lrem {x y : Int64} (hd : decode M.2.1 pc = .ok (.lrem, 1)) (hne : ¬ y = 0) (hq : pc + 1 = q) (k : Wq X r d M q loc (vL (x - x / y * y) :: stk) w Q) : Wq X r d M pc loc (vL y :: vL x :: stk) w Q := by
  subst hq
  intro h1 h2 p e s m args below meth c H locs ls B hP hD hS hl
  exact lv_lrem (rest := stk.map (con X)) B.1 B.2.1 hd hne (k h1 h2.tl.tl.l p e s m args below meth c H locs ls B hP hD hS hl)
theorem R_lshl {x : Int64} {y : Int32} (hd : decode M.2.1 pc = .ok (.lshl, 1))  (hq : pc + 1 = q) (k : Wq X r d M q loc (vL (x <<< (y.toInt64 &&& 63)) :: stk) w Q) : Wq X r d M pc loc (vI y :: vL x :: stk) w Q := by
  subst hq
  intro h1 h2 p e s m args below meth c H locs ls B hP hD hS hl
  exact lv_lshl (rest := stk.map (con X)) B.1 B.2.1 hd rfl (k h1 h2.tl.tl.l p e s m args below meth c H locs ls B hP hD hS hl)
theorem R_lushr {x : Int64} {y : Int32} (hd : decode M.2.1 pc = .ok (.lushr, 1))  (hq : pc + 1 = q) (k : Wq X r d M q loc (vL ((x.toUInt64 >>> (y.toInt64.toUInt64 &&& Int64.toUInt64 63)).toInt64) :: stk) w Q) : Wq X r d M pc loc (vI y :: vL x :: stk) w Q := by
  subst hq
  intro h1 h2 p e s m args below meth c H locs ls B hP hD hS hl
  exact lv_lushr (rest := stk.map (con X)) B.1 B.2.1 hd rfl (k h1 h2.tl.tl.l p e s m args below meth c H locs ls B hP hD hS hl)
theorem R_dup {v : AV} (hd : decode M.2.1 pc = .ok (.dup, 1)) (hc : cat v = 1) (hq : pc + 1 = q) (k : Wq X r d M q loc (v :: v :: stk) w Q) : Wq X r d M pc loc (v :: stk) w Q := by
  subst hq
  intro h1 h2 p e s m args below meth c H locs ls B hP hD hS hl
  exact lv_dup (va := con X v) (rest := stk.map (con X)) B.1 B.2.1 hd (by rw [con_cat]; exact hc) (k h1 (okl.cons h2.hd h2) p e s m args below meth c H locs ls B hP hD hS hl)
theorem R_dup2 {u v : AV} (hd : decode M.2.1 pc = .ok (.dup2, 1)) (hu : cat u = 1) (hc : cat v = 1) (hq : pc + 1 = q) (k : Wq X r d M q loc (u :: v :: u :: v :: stk) w Q) : Wq X r d M pc loc (u :: v :: stk) w Q := by
  subst hq
  intro h1 h2 p e s m args below meth c H locs ls B hP hD hS hl
  exact lv_dup2_11 (va := con X u) (vb := con X v) (rest := stk.map (con X)) B.1 B.2.1 hd (by rw [con_cat]; exact hu) (by rw [con_cat]; exact hc) (k h1 (okl.cons h2.hd (okl.cons h2.tl.hd h2)) p e s m args below meth c H locs ls B hP hD hS hl)
theorem R_istore_n {k : Fin 4} {i : Nat} {x : Int32} {loc' : Lo} (hd : decode M.2.1 pc = .ok (.istore_n k, 1)) (hi : (k : Nat) = i) (hn : i < M.2.2.1) (hl' : st1 loc i (vI x) = loc') (hq : pc + 1 = q) (k : Wq X r d M q loc' stk w Q) : Wq X r d M pc loc (vI x :: stk) w Q := by
  subst hl'
  subst hq
  intro h1 h2 p e s m args below meth c H locs ls B hP hD hS hl
  exact lv_istore_n (x := x) (rest := stk.map (con X)) B.1 B.2.1 hd hi hl hn (cnL_st1 X loc i (vI x)) (fun ls hl => k (okL_st1 trivial h1) h2.tl p e s m args below meth c H locs ls B hP hD hS hl)
theorem R_istore {i : Nat} {x : Int32} {loc' : Lo} (hd : decode M.2.1 pc = .ok (.istore i, 2))  (hn : i < M.2.2.1) (hl' : st1 loc i (vI x) = loc') (hq : pc + 2 = q) (k : Wq X r d M q loc' stk w Q) : Wq X r d M pc loc (vI x :: stk) w Q := by
  subst hl'
  subst hq
  intro h1 h2 p e s m args below meth c H locs ls B hP hD hS hl
  exact lv_istore (x := x) (rest := stk.map (con X)) B.1 B.2.1 hd  hl hn (cnL_st1 X loc i (vI x)) (fun ls hl => k (okL_st1 trivial h1) h2.tl p e s m args below meth c H locs ls B hP hD hS hl)
theorem R_lstore_n {k : Fin 4} {i : Nat} {x : Int64} {loc' : Lo} (hd : decode M.2.1 pc = .ok (.lstore_n k, 1)) (hi : (k : Nat) = i) (hn : i + 1 < M.2.2.1) (hl' : st2 loc i (vL x) = loc') (hq : pc + 1 = q) (k : Wq X r d M q loc' stk w Q) : Wq X r d M pc loc (vL x :: stk) w Q := by
  subst hl'
  subst hq
  intro h1 h2 p e s m args below meth c H locs ls B hP hD hS hl
  exact lv_lstore_n (x := x) (rest := stk.map (con X)) B.1 B.2.1 hd hi hl hn (cnL_st2 X loc i (vL x)) (fun ls hl => k (okL_st2 trivial h1) h2.tl p e s m args below meth c H locs ls B hP hD hS hl)
theorem R_astore_n {k : Fin 4} {i a n : Nat} {pa : List Nat} {loc' : Lo} (hd : decode M.2.1 pc = .ok (.astore_n k, 1)) (hi : (k : Nat) = i) (hn : i < M.2.2.1) (hl' : st1 loc i (vR a n pa) = loc') (hq : pc + 1 = q) (k : Wq X r d M q loc' stk w Q) : Wq X r d M pc loc (vR a n pa :: stk) w Q := by
  subst hl'
  subst hq
  intro h1 h2 p e s m args below meth c H locs ls B hP hD hS hl
  exact lv_astore_n (rest := stk.map (con X)) B.1 B.2.1 hd hi hl hn (cnL_st1 X loc i (vR a n pa)) (fun ls hl => k (okL_st1 h2.hd h1) h2.tl p e s m args below meth c H locs ls B hP hD hS hl)
theorem R_iinc {i : Nat} {n : Int} {x v : Int32} {loc' : Lo} (hd : decode M.2.1 pc = .ok (.iinc i n, 3)) (hg : lgt loc i = some (vI x)) (hv : x + Int32.ofInt n = v) (hn : i < M.2.2.1) (hl' : st1 loc i (vI v) = loc') (hq : pc + 3 = q) (k : Wq X r d M q loc' stk w Q) : Wq X r d M pc loc stk w Q := by
  subst hl'
  subst hq
  intro h1 h2 p e s m args below meth c H locs ls B hP hD hS hl
  obtain ⟨j, hj⟩ := List.mem_iff_getElem?.mp (List.mem_map.mpr ⟨(i, vI x), lgt_mem hg, rfl⟩ : (i, con X (vI x)) ∈ cnL X loc)
  exact lv_iinc (rest := stk.map (con X)) B.1 B.2.1 hd hl hj hv hn (cnL_st1 X loc i (vI v)) (fun ls hl => k (okL_st1 trivial h1) h2 p e s m args below meth c H locs ls B hP hD hS hl)
theorem R_goto {off : Int} (hd : decode M.2.1 pc = .ok (.goto off, 3)) (hq : (pc : Int) + off = (q : Int)) (k : Wq X r d M q loc stk w Q) : Wq X r d M pc loc stk w Q := by
  intro h1 h2 p e s m args below meth c H locs ls B hP hD hS hl
  exact lv_goto (rest := stk.map (con X)) B.1 B.2.1 hd hq (k h1 h2 p e s m args below meth c H locs ls B hP hD hS hl)
theorem R_if_eq {x : Int32} {off : Int} {tgt : Nat} (hd : decode M.2.1 pc = .ok (.ifCond .eq off, 3)) (ht : (pc : Int) + off = (tgt : Int)) (hq : pc + 3 = q) (kt : x = 0 → Wq X r d M tgt loc stk w Q) (kf : ¬ x = 0 → Wq X r d M q loc stk w Q) : Wq X r d M pc loc (vI x :: stk) w Q := by
  subst hq
  intro h1 h2 p e s m args below meth c H locs ls B hP hD hS hl
  exact lv_if_eq (rest := stk.map (con X)) B.1 B.2.1 hd ht (fun g => kt g h1 h2.tl p e s m args below meth c H locs ls B hP hD hS hl) (fun g => kf g h1 h2.tl p e s m args below meth c H locs ls B hP hD hS hl)
theorem R_icmp_eq {x y : Int32} {off : Int} {tgt : Nat} (hd : decode M.2.1 pc = .ok (.if_icmp .eq off, 3)) (ht : (pc : Int) + off = (tgt : Int)) (hq : pc + 3 = q) (kt : x = y → Wq X r d M tgt loc stk w Q) (kf : ¬ x = y → Wq X r d M q loc stk w Q) : Wq X r d M pc loc (vI y :: vI x :: stk) w Q := by
  subst hq
  intro h1 h2 p e s m args below meth c H locs ls B hP hD hS hl
  exact lv_icmp_eq (rest := stk.map (con X)) B.1 B.2.1 hd ht (fun g => kt g h1 h2.tl.tl p e s m args below meth c H locs ls B hP hD hS hl) (fun g => kf g h1 h2.tl.tl p e s m args below meth c H locs ls B hP hD hS hl)
theorem R_if_ne {x : Int32} {off : Int} {tgt : Nat} (hd : decode M.2.1 pc = .ok (.ifCond .ne off, 3)) (ht : (pc : Int) + off = (tgt : Int)) (hq : pc + 3 = q) (kt : ¬ x = 0 → Wq X r d M tgt loc stk w Q) (kf : x = 0 → Wq X r d M q loc stk w Q) : Wq X r d M pc loc (vI x :: stk) w Q := by
  subst hq
  intro h1 h2 p e s m args below meth c H locs ls B hP hD hS hl
  exact lv_if_ne (rest := stk.map (con X)) B.1 B.2.1 hd ht (fun g => kt g h1 h2.tl p e s m args below meth c H locs ls B hP hD hS hl) (fun g => kf g h1 h2.tl p e s m args below meth c H locs ls B hP hD hS hl)
theorem R_icmp_ne {x y : Int32} {off : Int} {tgt : Nat} (hd : decode M.2.1 pc = .ok (.if_icmp .ne off, 3)) (ht : (pc : Int) + off = (tgt : Int)) (hq : pc + 3 = q) (kt : ¬ x = y → Wq X r d M tgt loc stk w Q) (kf : x = y → Wq X r d M q loc stk w Q) : Wq X r d M pc loc (vI y :: vI x :: stk) w Q := by
  subst hq
  intro h1 h2 p e s m args below meth c H locs ls B hP hD hS hl
  exact lv_icmp_ne (rest := stk.map (con X)) B.1 B.2.1 hd ht (fun g => kt g h1 h2.tl.tl p e s m args below meth c H locs ls B hP hD hS hl) (fun g => kf g h1 h2.tl.tl p e s m args below meth c H locs ls B hP hD hS hl)
theorem R_if_lt {x : Int32} {off : Int} {tgt : Nat} (hd : decode M.2.1 pc = .ok (.ifCond .lt off, 3)) (ht : (pc : Int) + off = (tgt : Int)) (hq : pc + 3 = q) (kt : x < 0 → Wq X r d M tgt loc stk w Q) (kf : ¬ x < 0 → Wq X r d M q loc stk w Q) : Wq X r d M pc loc (vI x :: stk) w Q := by
  subst hq
  intro h1 h2 p e s m args below meth c H locs ls B hP hD hS hl
  exact lv_if_lt (rest := stk.map (con X)) B.1 B.2.1 hd ht (fun g => kt g h1 h2.tl p e s m args below meth c H locs ls B hP hD hS hl) (fun g => kf g h1 h2.tl p e s m args below meth c H locs ls B hP hD hS hl)
theorem R_icmp_lt {x y : Int32} {off : Int} {tgt : Nat} (hd : decode M.2.1 pc = .ok (.if_icmp .lt off, 3)) (ht : (pc : Int) + off = (tgt : Int)) (hq : pc + 3 = q) (kt : x < y → Wq X r d M tgt loc stk w Q) (kf : ¬ x < y → Wq X r d M q loc stk w Q) : Wq X r d M pc loc (vI y :: vI x :: stk) w Q := by
  subst hq
  intro h1 h2 p e s m args below meth c H locs ls B hP hD hS hl
  exact lv_icmp_lt (rest := stk.map (con X)) B.1 B.2.1 hd ht (fun g => kt g h1 h2.tl.tl p e s m args below meth c H locs ls B hP hD hS hl) (fun g => kf g h1 h2.tl.tl p e s m args below meth c H locs ls B hP hD hS hl)
theorem R_if_ge {x : Int32} {off : Int} {tgt : Nat} (hd : decode M.2.1 pc = .ok (.ifCond .ge off, 3)) (ht : (pc : Int) + off = (tgt : Int)) (hq : pc + 3 = q) (kt : 0 ≤ x → Wq X r d M tgt loc stk w Q) (kf : ¬ 0 ≤ x → Wq X r d M q loc stk w Q) : Wq X r d M pc loc (vI x :: stk) w Q := by
  subst hq
  intro h1 h2 p e s m args below meth c H locs ls B hP hD hS hl
  exact lv_if_ge (rest := stk.map (con X)) B.1 B.2.1 hd ht (fun g => kt g h1 h2.tl p e s m args below meth c H locs ls B hP hD hS hl) (fun g => kf g h1 h2.tl p e s m args below meth c H locs ls B hP hD hS hl)
theorem R_icmp_ge {x y : Int32} {off : Int} {tgt : Nat} (hd : decode M.2.1 pc = .ok (.if_icmp .ge off, 3)) (ht : (pc : Int) + off = (tgt : Int)) (hq : pc + 3 = q) (kt : y ≤ x → Wq X r d M tgt loc stk w Q) (kf : ¬ y ≤ x → Wq X r d M q loc stk w Q) : Wq X r d M pc loc (vI y :: vI x :: stk) w Q := by
  subst hq
  intro h1 h2 p e s m args below meth c H locs ls B hP hD hS hl
  exact lv_icmp_ge (rest := stk.map (con X)) B.1 B.2.1 hd ht (fun g => kt g h1 h2.tl.tl p e s m args below meth c H locs ls B hP hD hS hl) (fun g => kf g h1 h2.tl.tl p e s m args below meth c H locs ls B hP hD hS hl)
theorem R_if_gt {x : Int32} {off : Int} {tgt : Nat} (hd : decode M.2.1 pc = .ok (.ifCond .gt off, 3)) (ht : (pc : Int) + off = (tgt : Int)) (hq : pc + 3 = q) (kt : 0 < x → Wq X r d M tgt loc stk w Q) (kf : ¬ 0 < x → Wq X r d M q loc stk w Q) : Wq X r d M pc loc (vI x :: stk) w Q := by
  subst hq
  intro h1 h2 p e s m args below meth c H locs ls B hP hD hS hl
  exact lv_if_gt (rest := stk.map (con X)) B.1 B.2.1 hd ht (fun g => kt g h1 h2.tl p e s m args below meth c H locs ls B hP hD hS hl) (fun g => kf g h1 h2.tl p e s m args below meth c H locs ls B hP hD hS hl)
theorem R_icmp_gt {x y : Int32} {off : Int} {tgt : Nat} (hd : decode M.2.1 pc = .ok (.if_icmp .gt off, 3)) (ht : (pc : Int) + off = (tgt : Int)) (hq : pc + 3 = q) (kt : y < x → Wq X r d M tgt loc stk w Q) (kf : ¬ y < x → Wq X r d M q loc stk w Q) : Wq X r d M pc loc (vI y :: vI x :: stk) w Q := by
  subst hq
  intro h1 h2 p e s m args below meth c H locs ls B hP hD hS hl
  exact lv_icmp_gt (rest := stk.map (con X)) B.1 B.2.1 hd ht (fun g => kt g h1 h2.tl.tl p e s m args below meth c H locs ls B hP hD hS hl) (fun g => kf g h1 h2.tl.tl p e s m args below meth c H locs ls B hP hD hS hl)
theorem R_if_le {x : Int32} {off : Int} {tgt : Nat} (hd : decode M.2.1 pc = .ok (.ifCond .le off, 3)) (ht : (pc : Int) + off = (tgt : Int)) (hq : pc + 3 = q) (kt : x ≤ 0 → Wq X r d M tgt loc stk w Q) (kf : ¬ x ≤ 0 → Wq X r d M q loc stk w Q) : Wq X r d M pc loc (vI x :: stk) w Q := by
  subst hq
  intro h1 h2 p e s m args below meth c H locs ls B hP hD hS hl
  exact lv_if_le (rest := stk.map (con X)) B.1 B.2.1 hd ht (fun g => kt g h1 h2.tl p e s m args below meth c H locs ls B hP hD hS hl) (fun g => kf g h1 h2.tl p e s m args below meth c H locs ls B hP hD hS hl)
theorem R_icmp_le {x y : Int32} {off : Int} {tgt : Nat} (hd : decode M.2.1 pc = .ok (.if_icmp .le off, 3)) (ht : (pc : Int) + off = (tgt : Int)) (hq : pc + 3 = q) (kt : x ≤ y → Wq X r d M tgt loc stk w Q) (kf : ¬ x ≤ y → Wq X r d M q loc stk w Q) : Wq X r d M pc loc (vI y :: vI x :: stk) w Q := by
  subst hq
  intro h1 h2 p e s m args below meth c H locs ls B hP hD hS hl
  exact lv_icmp_le (rest := stk.map (con X)) B.1 B.2.1 hd ht (fun g => kt g h1 h2.tl.tl p e s m args below meth c H locs ls B hP hD hS hl) (fun g => kf g h1 h2.tl.tl p e s m args below meth c H locs ls B hP hD hS hl)
theorem R_lcmp {x y : Int64} (hd : decode M.2.1 pc = .ok (.lcmp, 1)) (hq : pc + 1 = q) (k : Wq X r d M q loc (vI (lg_cmp x y) :: stk) w Q) : Wq X r d M pc loc (vL y :: vL x :: stk) w Q := by
  subst hq
  intro h1 h2 p e s m args below meth c H locs ls B hP hD hS hl
  exact W.lcmp (rest := stk.map (con X)) B.1 B.2.1 hd (k h1 h2.tl.tl.i p e s m args below meth c H locs ls B hP hD hS hl)
theorem R_tableIn {dflt lo hi : Int} {offs : Array Int} {len : Nat} {x : Int32} {off : Int} (hd : decode M.2.1 pc = .ok (.tableswitch dflt lo hi offs, len)) (ha : ¬ x.toInt < lo) (hb : ¬ hi < x.toInt) (ho : offs[(x.toInt - lo).toNat]? = some off) (hq : (pc : Int) + off = (q : Int)) (k : Wq X r d M q loc stk w Q) : Wq X r d M pc loc (vI x :: stk) w Q := by
  intro h1 h2 p e s m args below meth c H locs ls B hP hD hS hl
  exact lv_tableIn (rest := stk.map (con X)) B.1 B.2.1 hd ha hb ho hq (k h1 h2.tl p e s m args below meth c H locs ls B hP hD hS hl)
theorem R_tableOut {dflt lo hi : Int} {offs : Array Int} {len : Nat} {x : Int32} (hd : decode M.2.1 pc = .ok (.tableswitch dflt lo hi offs, len)) (ha : x.toInt < lo ∨ hi < x.toInt) (hq : (pc : Int) + dflt = (q : Int)) (k : Wq X r d M q loc stk w Q) : Wq X r d M pc loc (vI x :: stk) w Q := by
  intro h1 h2 p e s m args below meth c H locs ls B hP hD hS hl
  exact lv_tableOut (rest := stk.map (con X)) B.1 B.2.1 hd ha hq (k h1 h2.tl p e s m args below meth c H locs ls B hP hD hS hl)
theorem R_lookup {dflt : Int} {ps : Array (Int × Int)} {len : Nat} {x : Int32} {off : Int} (hd : decode M.2.1 pc = .ok (.lookupswitch dflt ps, len)) (hp : (ps.toList.zip (ps.toList.drop 1)).all (fun (a, next) => a.1 < next.1) = true) (ho : Op.lookupswitch.offset ps.toList dflt x.toInt = off) (hq : (pc : Int) + off = (q : Int)) (k : Wq X r d M q loc stk w Q) : Wq X r d M pc loc (vI x :: stk) w Q := by
  intro h1 h2 p e s m args below meth c H locs ls B hP hD hS hl
  exact lv_lookup (rest := stk.map (con X)) B.1 B.2.1 hd hp ho hq (k h1 h2.tl p e s m args below meth c H locs ls B hP hD hS hl)
end RU
end
section
/-! fields -/
def clsOK (a : Nat) (C : String) (T : u_T) (N : Nat) (ty : Nat → FieldType) : Prop := vwCl[a]? = some (C, T, N) ∧ N = nf a ∧ a < 9 ∧ (∀ w ∈ u_ws C T N, w ∈ tbG) ∧ (∀ k, k < N → parseFieldDescriptor (T k).2.2.1 = some (ty k)) ∧ (∀ x, x < N → ∀ y, y < N → x ≠ y → (T x).2.1 ≠ (T y).2.1)
/-- a field's link: of the class of number a, the slot k; f: it is final; t: its type -/
def FL (own : String) (i a k : Nat) (f : Bool) (t : FieldType) : Prop := ∃ (C : String) (T : u_T) (N : Nat) (ty : Nat → FieldType), clsOK a C T N ty ∧ k < N ∧ (T k).1 = C ∧ (T k).2.2.2 = f ∧ ty k = t ∧ (Cond.fieldLink own i C (T k).2.1 (T k).2.2.1 ∈ tbG ∨ ∃ h, Cond.fieldLinkNest own i C (T k).2.1 (T k).2.2.1 h ∈ tbN)
theorem cellE_obj {X : Cx} {w : Wd} {pa : List Nat} {a n : Nat} (ha : a < 9) : cellE X w (pa, a, n) = (adr X a pa, .inr (a, (List.range (nf a)).map (fv X w pa a))) := by
  have h1 : adr X a pa = X.2.2.2.1 pa := by
    unfold adr
    rw [if_neg (by omega), if_neg (by omega)]
  rw [h1]
  simp only [cellE, if_pos ha]
theorem cellE_int {X : Cx} {w : Wd} {pa : List Nat} {n : Nat} : cellE X w (pa, 9, n) = (adr X 9 pa, .inl (X.2.2.1 0, n, .inl (w.1 pa))) := rfl
theorem cellE_bool {X : Cx} {w : Wd} {pa : List Nat} {n : Nat} : cellE X w (pa, 10, n) = (adr X 10 pa, .inl (X.2.2.1 1, n, .inl (w.1 pa))) := rfl
theorem cellE_arr {X : Cx} {w : Wd} {pa : List Nat} {n : Nat} : cellE X w (pa, 11, n) = (adr X 11 pa, .inl (X.2.2.1 2, n, .inr (.inr (.inr (.inr (fun i => some (X.2.2.2.1 (i :: pa)))))))) := rfl
theorem okv_obj {r a n : Nat} {pa : List Nat} (ha : a < 13) (h : okv r (vR a n pa)) : (pa, a, n) ∈ PT r := by
  rcases h with ⟨h, -⟩ | ⟨h, -⟩ | ⟨-, h⟩
  · dsimp only at h; omega
  · dsimp only at h; omega
  · exact h
def ptc (r : Nat) : Bool := (PT r).all fun e => (List.range (nf e.2.1)).all fun k => !(decide ((fk e.2.1 k).1 < 100)) || (decide ((fk e.2.1 k).1 < 13) && decide ((k :: e.1, fk e.2.1 k) ∈ PT r))
def pte (r : Nat) : Bool := (PT r).all fun e => !(decide (e.2.1 = 11)) || (List.range e.2.2).all fun k => decide ((k :: e.1, 5, 0) ∈ PT r)
theorem ptc_t (r : Nat) : ptc r = true := by
  match r with
  | 0 => decide +kernel
  | 1 => decide +kernel
  | _ + 2 => rfl
theorem pte_t (r : Nat) : pte r = true := by
  match r with
  | 0 => decide +kernel
  | 1 => decide +kernel
  | _ + 2 => rfl
theorem PT_ref : ∀ r, ∀ e ∈ PT r, ∀ k, k < nf e.2.1 → (fk e.2.1 k).1 < 100 → (fk e.2.1 k).1 < 13 ∧ (k :: e.1, fk e.2.1 k) ∈ PT r := by
  intro r e he k hk h1
  have h := List.all_eq_true.mp (List.all_eq_true.mp (ptc_t r) e he) k (List.mem_range.mpr hk)
  simp only [Bool.or_eq_true, Bool.not_eq_true', decide_eq_false_iff_not, Bool.and_eq_true, decide_eq_true_eq] at h
  rcases h with h | h
  · exact absurd h1 h
  · exact h
theorem PT_elm : ∀ r, ∀ e ∈ PT r, e.2.1 = 11 → ∀ k, k < e.2.2 → (k :: e.1, 5, 0) ∈ PT r := by
  intro r e he h1 k hk
  have h := List.all_eq_true.mp (pte_t r) e he
  simp only [Bool.or_eq_true, Bool.not_eq_true', decide_eq_false_iff_not] at h
  rcases h with h | h
  · exact absurd h1 h
  · have h2 := List.all_eq_true.mp h k (List.mem_range.mpr hk)
    simpa using h2
theorem va_get2 {p : Program} {l : Launch} {e : Env} {R : Room} {s : State} {m : MethodId} {args : Array Value} {below : List Frame} {meth : Method} {c : Code} {H : Heap} {locs : List Loc} {cells slots : Nat} {Q : State → Prop} {cc : ByteArray} {pc : Nat} {ls : Array Slot} {rest : List Value} {D : va_G} {cl : List vw_C} {aa : Nat} {tys : List (ClassId × FieldType)} {ws : va_W}
    (hexec : p.tables.exec = Jvm.exec) (hb : c.code = cc) {own C : String} {T : u_T} {N ci index : Nat} (hts : ∀ w ∈ tbG, w.before args s = true) (hn : Ns s) (hin : ∀ w ∈ u_ws C T N, w ∈ tbG) (hown : s.vm.findClass own = some m.cls) (hK : va_K D cl tys s) (hP : va_P D cl ws H) (q0 : Nat) {fs : List Value} (he : ws[q0]? = some (aa, .inr (ci, fs))) (hc : cl[ci]? = some (C, T, N)) (k : Nat) (hk : k < N) (ht : (T k).1 = C)
    (hl : Cond.fieldLink own index C (T k).2.1 (T k).2.2.1 ∈ tbG ∨ ∃ h, Cond.fieldLinkNest own index C (T k).2.1 (T k).2.2.1 h ∈ tbN) {v : Value} (hv : fs[k]? = some v) (hdg : decode cc pc = .ok (.getfield index, 3))
    (kk : W p l e R s m args below meth c H locs cells slots Q (F0 m (pc + 3) ls (v :: rest))) : W p l e R s m args below meth c H locs cells slots Q (F0 m pc ls (.ref aa :: rest)) := by
  rcases hl with hl | ⟨h, hl⟩
  · exact va_get hexec hb hts hin hown hK hP q0 he hc k hk (hts _ hl) (fun x hx => by rw [← ht]; exact hx) hv hdg kk
  · exact va_getN hexec hb hts hin hown hK hP q0 he hc k hk (va_Nw.use rfl (hn _ hl)) (fun x hx => by rw [← ht]; exact hx) hv hdg kk
section RH
variable {X : Cx} {r d : Nat} {M : Mth} {pc q : Nat} {loc : Lo} {stk : List AV} {w : Wd} {Q : Option AV → Wd → Prop}
theorem R_getI {i a n k : Nat} {pa : List Nat} {f : Bool} {t : FieldType} (hd : decode M.2.1 pc = .ok (.getfield i, 3)) (hf : FL M.2.2.2.2 i a k f t) (hk : (fk a k).1 = 100) (hq : pc + 3 = q) (kk : Wq X r d M q loc (vI (w.1 pa k) :: stk) w Q) : Wq X r d M pc loc (vR a n pa :: stk) w Q := by
  subst hq
  intro h1 h2 p e s m args below meth c H locs ls B hP hD hS hl
  obtain ⟨C, T, N, ty, ⟨hc, hN, ha, hin, hty, hnm⟩, hkN, hT, -, -, hlk⟩ := hf
  obtain ⟨j, -, hj⟩ := wld_at (X := X) (w := w) (okv_obj (by omega) h2.hd)
  rw [cellE_obj ha] at hj
  refine va_get2 (v := .int (w.1 pa k)) (rest := stk.map (con X)) B.1 B.2.1 B.2.2.2.2.2.2.1 B.2.2.2.2.2.2.2.2.1 hin B.2.2.2.2.2.1 B.2.2.2.2.2.2.2.1 hP j hj hc k hkN hT hlk ?_ hd (kk h1 h2.tl.i p e s m args below meth c H locs ls B hP hD hS hl)
  rw [List.getElem?_map, List.getElem?_range (by rw [← hN]; exact hkN)]
  simp only [Option.map_some, fv, hk, if_true]
theorem R_getL {i a n k : Nat} {pa : List Nat} {f : Bool} {t : FieldType} (hd : decode M.2.1 pc = .ok (.getfield i, 3)) (hf : FL M.2.2.2.2 i a k f t) (hk : (fk a k).1 = 101) (hq : pc + 3 = q) (kk : Wq X r d M q loc (vL (w.2 pa) :: stk) w Q) : Wq X r d M pc loc (vR a n pa :: stk) w Q := by
  subst hq
  intro h1 h2 p e s m args below meth c H locs ls B hP hD hS hl
  obtain ⟨C, T, N, ty, ⟨hc, hN, ha, hin, hty, hnm⟩, hkN, hT, -, -, hlk⟩ := hf
  obtain ⟨j, -, hj⟩ := wld_at (X := X) (w := w) (okv_obj (by omega) h2.hd)
  rw [cellE_obj ha] at hj
  refine va_get2 (v := .long (w.2 pa)) (rest := stk.map (con X)) B.1 B.2.1 B.2.2.2.2.2.2.1 B.2.2.2.2.2.2.2.2.1 hin B.2.2.2.2.2.1 B.2.2.2.2.2.2.2.1 hP j hj hc k hkN hT hlk ?_ hd (kk h1 h2.tl.l p e s m args below meth c H locs ls B hP hD hS hl)
  rw [List.getElem?_map, List.getElem?_range (by rw [← hN]; exact hkN)]
  simp only [Option.map_some, fv, hk]
  rfl
theorem R_getR {i a n k b nb : Nat} {pa : List Nat} {f : Bool} {t : FieldType} (hd : decode M.2.1 pc = .ok (.getfield i, 3)) (hf : FL M.2.2.2.2 i a k f t) (hk : fk a k = (b, nb)) (hb : b < 100) (hq : pc + 3 = q) (kk : Wq X r d M q loc (vR b nb (k :: pa) :: stk) w Q) : Wq X r d M pc loc (vR a n pa :: stk) w Q := by
  subst hq
  intro h1 h2 p e s m args below meth c H locs ls B hP hD hS hl
  obtain ⟨C, T, N, ty, ⟨hc, hN, ha, hin, hty, hnm⟩, hkN, hT, -, -, hlk⟩ := hf
  have hm := okv_obj (by omega) h2.hd
  obtain ⟨j, -, hj⟩ := wld_at (X := X) (w := w) hm
  have hr := PT_ref r _ hm k (by rw [← hN]; exact hkN) (by dsimp only; rw [hk]; exact hb)
  dsimp only at hr
  rw [hk] at hr
  rw [cellE_obj ha] at hj
  have hadr : adr X b (k :: pa) = X.2.2.2.1 (k :: pa) := by
    unfold adr
    have := hr.1
    dsimp only at this
    rw [if_neg (by omega), if_neg (by omega)]
  refine va_get2 (v := .ref (adr X b (k :: pa))) (rest := stk.map (con X)) B.1 B.2.1 B.2.2.2.2.2.2.1 B.2.2.2.2.2.2.2.2.1 hin B.2.2.2.2.2.1 B.2.2.2.2.2.2.2.1 hP j hj hc k hkN hT hlk ?_ hd (kk h1 (okl.cons (Or.inr (Or.inr hr)) h2.tl) p e s m args below meth c H locs ls B hP hD hS hl)
  rw [List.getElem?_map, List.getElem?_range (by rw [← hN]; exact hkN), hadr]
  simp only [Option.map_some, fv, hk]
  rw [if_neg (by omega), if_neg (by omega)]
theorem fv_set {X : Cx} {w w' : Wd} {pa : List Nat} {a k : Nat} {v : Value} (hk : k < nf a) (hv : fv X w' pa a k = v) (ho : ∀ j, j ≠ k → fv X w' pa a j = fv X w pa a j) : ((List.range (nf a)).map (fv X w pa a)).set k v = (List.range (nf a)).map (fv X w' pa a) := by
  apply List.ext_getElem?
  intro j
  by_cases hj : k = j
  · subst hj
    rw [List.getElem?_set_self (by simp [hk]), List.getElem?_map, List.getElem?_range hk, Option.map_some, hv]
  · rw [List.getElem?_set_ne hj, List.getElem?_map, List.getElem?_map]
    by_cases hlt : j < nf a
    · rw [List.getElem?_range hlt, Option.map_some, Option.map_some, ho j (fun h => hj h.symm)]
    · rw [List.getElem?_eq_none (by simpa using hlt)]
      rfl
theorem R_putI {i a n k : Nat} {pa : List Nat} {x : Int32} (hd : decode M.2.1 pc = .ok (.putfield i, 3)) (hf : FL M.2.2.2.2 i a k false .int) (hk : (fk a k).1 = 100) (hq : pc + 3 = q) (kk : Wq X r d M q loc stk (uI w pa k x) Q) : Wq X r d M pc loc (vI x :: vR a n pa :: stk) w Q := by
  subst hq
  intro h1 h2 p e s m args below meth c H locs ls B hP hD hS hl
  obtain ⟨C, T, N, ty, ⟨hc, hN, ha, hin, hty, hnm⟩, hkN, hT, hfin, htk, hlk⟩ := hf
  have hm := okv_obj (by omega) h2.tl.hd
  obtain ⟨j, hj0, hj⟩ := wld_at (X := X) (w := w) hm
  rw [cellE_obj ha] at hj
  have hfv : ((List.range (nf a)).map (fv X w pa a)).set k (.int x) = (List.range (nf a)).map (fv X (uI w pa k x) pa a) := by
    refine fv_set (by rw [← hN]; exact hkN) ?_ ?_
    · simp only [fv, hk, if_true, uI, uA_same, upd]
    · intro y hy
      unfold fv
      simp only [uI, uA_same, upd, if_neg hy]
      rfl
  have hset : (wld X r w).set j (adr X a pa, .inr (a, ((List.range (nf a)).map (fv X w pa a)).set k (.int x))) = wld X r (uI w pa k x) := by
    rw [hfv, ← cellE_obj (n := n) ha]
    exact wld_set hj0 (fun y hy => ⟨uA_ne hy, rfl⟩)
  have hlen : k < ((List.range (nf a)).map (fv X w pa a)).length := by simp only [List.length_map, List.length_range]; rw [← hN]; exact hkN
  have kk2 : ∀ (H1 : Heap) (locs1 : List Loc), va_P X.2.1 vwCl ((wld X r w).set j (adr X a pa, .inr (a, ((List.range (nf a)).map (fv X w pa a)).set k (.int x)))) H1 → va_D (Ar X r) ((wld X r w).set j (adr X a pa, .inr (a, ((List.range (nf a)).map (fv X w pa a)).set k (.int x)))) → va_S (Ar X r) s.heap H1 locs1 → W p X.1 e (rmD d) s m args below meth c H1 locs1 0 0 (MQ below (Qres X r Q) args s 0 0 (Ar X r)) (F0 m (pc + 3) ls (stk.map (con X))) := by
    intro H1 locs1 hP1 hD1 hS1
    rw [hset] at hP1 hD1
    exact kk h1 h2.tl.tl p e s m args below meth c H1 locs1 ls B hP1 hD1 hS1 hl
  rcases hlk with hlk | ⟨hh, hlk⟩
  · exact va_put (v := .int x) (ty := .int) (rest := stk.map (con X)) B.1 B.2.1 B.2.2.2.2.2.2.1 hin ty hty hnm B.2.2.2.2.2.1 B.2.2.2.2.2.2.2.1 hP hD hS j hj hc k hkN (B.2.2.2.2.2.2.1 _ hlk) (fun x hx => by rw [← hT]; exact hx) hfin (by rw [hty k hkN, htk]) rfl rfl hlen hd kk2
  · exact va_putN (v := .int x) (ty := .int) (rest := stk.map (con X)) B.1 B.2.1 B.2.2.2.2.2.2.1 hin ty hty hnm B.2.2.2.2.2.1 B.2.2.2.2.2.2.2.1 hP hD hS j hj hc k hkN (va_Nw.use rfl (B.2.2.2.2.2.2.2.2.1 _ hlk)) (fun x hx => by rw [← hT]; exact hx) hfin (by rw [hty k hkN, htk]) rfl rfl hlen hd kk2
theorem R_putL {i a n k : Nat} {pa : List Nat} {x : Int64} (hd : decode M.2.1 pc = .ok (.putfield i, 3)) (hf : FL M.2.2.2.2 i a k false .long) (hk : (fk a k).1 = 101) (h1l : ∀ j, (fk a j).1 = 101 → j = k) (hq : pc + 3 = q) (kk : Wq X r d M q loc stk (uL w pa x) Q) : Wq X r d M pc loc (vL x :: vR a n pa :: stk) w Q := by
  subst hq
  intro h1 h2 p e s m args below meth c H locs ls B hP hD hS hl
  obtain ⟨C, T, N, ty, ⟨hc, hN, ha, hin, hty, hnm⟩, hkN, hT, hfin, htk, hlk⟩ := hf
  have hm := okv_obj (by omega) h2.tl.hd
  obtain ⟨j, hj0, hj⟩ := wld_at (X := X) (w := w) hm
  rw [cellE_obj ha] at hj
  have hfv : ((List.range (nf a)).map (fv X w pa a)).set k (.long x) = (List.range (nf a)).map (fv X (uL w pa x) pa a) := by
    refine fv_set (by rw [← hN]; exact hkN) ?_ ?_
    · simp [fv, hk, uL]
    · intro y hy
      have h3 : ¬ (fk a y).1 = 101 := fun h => hy (h1l y h)
      unfold fv
      rw [if_neg h3, if_neg h3]
      rfl
  have hset : (wld X r w).set j (adr X a pa, .inr (a, ((List.range (nf a)).map (fv X w pa a)).set k (.long x))) = wld X r (uL w pa x) := by
    rw [hfv, ← cellE_obj (n := n) ha]
    exact wld_set hj0 (fun y hy => ⟨rfl, by simp only [uL]; rw [if_neg hy]⟩)
  have hlen : k < ((List.range (nf a)).map (fv X w pa a)).length := by simp only [List.length_map, List.length_range]; rw [← hN]; exact hkN
  have kk2 : ∀ (H1 : Heap) (locs1 : List Loc), va_P X.2.1 vwCl ((wld X r w).set j (adr X a pa, .inr (a, ((List.range (nf a)).map (fv X w pa a)).set k (.long x)))) H1 → va_D (Ar X r) ((wld X r w).set j (adr X a pa, .inr (a, ((List.range (nf a)).map (fv X w pa a)).set k (.long x)))) → va_S (Ar X r) s.heap H1 locs1 → W p X.1 e (rmD d) s m args below meth c H1 locs1 0 0 (MQ below (Qres X r Q) args s 0 0 (Ar X r)) (F0 m (pc + 3) ls (stk.map (con X))) := by
    intro H1 locs1 hP1 hD1 hS1
    rw [hset] at hP1 hD1
    exact kk h1 h2.tl.tl p e s m args below meth c H1 locs1 ls B hP1 hD1 hS1 hl
  rcases hlk with hlk | ⟨hh, hlk⟩
  · exact va_put (v := .long x) (ty := .long) (rest := stk.map (con X)) B.1 B.2.1 B.2.2.2.2.2.2.1 hin ty hty hnm B.2.2.2.2.2.1 B.2.2.2.2.2.2.2.1 hP hD hS j hj hc k hkN (B.2.2.2.2.2.2.1 _ hlk) (fun x hx => by rw [← hT]; exact hx) hfin (by rw [hty k hkN, htk]) rfl rfl hlen hd kk2
  · exact va_putN (v := .long x) (ty := .long) (rest := stk.map (con X)) B.1 B.2.1 B.2.2.2.2.2.2.1 hin ty hty hnm B.2.2.2.2.2.1 B.2.2.2.2.2.2.2.1 hP hD hS j hj hc k hkN (va_Nw.use rfl (B.2.2.2.2.2.2.2.2.1 _ hlk)) (fun x hx => by rw [← hT]; exact hx) hfin (by rw [hty k hkN, htk]) rfl rfl hlen hd kk2
/-! arrays -/
theorem R_iald {n b : Nat} {i : Int32} {pa : List Nat} (hd : decode M.2.1 pc = .ok (.iaload, 1)) (hi : i = nI b) (hb : b < n) (hn : n < 2 ^ 31) (hq : pc + 1 = q) (kk : Wq X r d M q loc (vI (w.1 pa b) :: stk) w Q) : Wq X r d M pc loc (vI i :: vR 9 n pa :: stk) w Q := by
  subst hq; subst hi
  intro h1 h2 p e s m args below meth c H locs ls B hP hD hS hl
  obtain ⟨j, -, hj⟩ := wld_at (X := X) (w := w) (okv_obj (by omega) h2.tl.hd)
  rw [cellE_int] at hj
  refine va_iald (rest := stk.map (con X)) B.1 B.2.1 B.2.2.2.2.2.2.2.1 hP j 0 hj rfl (vp_in_nI hb hn) hd ?_
  rw [nI_clamp (by omega)]
  exact kk h1 h2.tl.tl.i p e s m args below meth c H locs ls B hP hD hS hl
theorem R_zald {n b : Nat} {i : Int32} {pa : List Nat} (hd : decode M.2.1 pc = .ok (.baload, 1)) (hi : i = nI b) (hb : b < n) (hn : n < 2 ^ 31) (hq : pc + 1 = q) (kk : Wq X r d M q loc (vI (w.1 pa b) :: stk) w Q) : Wq X r d M pc loc (vI i :: vR 10 n pa :: stk) w Q := by
  subst hq; subst hi
  intro h1 h2 p e s m args below meth c H locs ls B hP hD hS hl
  obtain ⟨j, -, hj⟩ := wld_at (X := X) (w := w) (okv_obj (by omega) h2.tl.hd)
  rw [cellE_bool] at hj
  refine va_zald (rest := stk.map (con X)) B.1 B.2.1 B.2.2.2.2.2.2.2.1 hP j 1 hj rfl (vp_in_nI hb hn) hd ?_
  rw [nI_clamp (by omega)]
  exact kk h1 h2.tl.tl.i p e s m args below meth c H locs ls B hP hD hS hl
theorem R_aald {n b : Nat} {i : Int32} {pa : List Nat} (hd : decode M.2.1 pc = .ok (.aaload, 1)) (hi : i = nI b) (hb : b < n) (hn : n < 2 ^ 31) (hq : pc + 1 = q) (kk : Wq X r d M q loc (vR 5 0 (b :: pa) :: stk) w Q) : Wq X r d M pc loc (vI i :: vR 11 n pa :: stk) w Q := by
  subst hq; subst hi
  intro h1 h2 p e s m args below meth c H locs ls B hP hD hS hl
  have hm := okv_obj (by omega) h2.tl.hd
  obtain ⟨j, -, hj⟩ := wld_at (X := X) (w := w) hm
  rw [cellE_arr] at hj
  refine va_aldq (rest := stk.map (con X)) B.1 B.2.1 B.2.2.2.2.2.2.2.1 hP j 2 hj rfl (vp_in_nI hb hn) hd ?_
  rw [nI_clamp (by omega)]
  exact kk h1 (okl.cons (Or.inr (Or.inr ⟨Nat.le_of_ble_eq_true rfl, PT_elm r _ hm rfl b hb⟩)) h2.tl.tl) p e s m args below meth c H locs ls B hP hD hS hl
theorem R_alen {n : Nat} {pa : List Nat} (hd : decode M.2.1 pc = .ok (.arraylength, 1)) (hq : pc + 1 = q) (kk : Wq X r d M q loc (vI (nI n) :: stk) w Q) : Wq X r d M pc loc (vR 9 n pa :: stk) w Q := by
  subst hq
  intro h1 h2 p e s m args below meth c H locs ls B hP hD hS hl
  obtain ⟨j, -, hj⟩ := wld_at (X := X) (w := w) (okv_obj (by omega) h2.hd)
  rw [cellE_int] at hj
  exact va_alen (v := nI n) (rest := stk.map (con X)) B.1 B.2.1 B.2.2.2.2.2.2.2.1 hP j 0 hj rfl rfl hd (kk h1 h2.tl.i p e s m args below meth c H locs ls B hP hD hS hl)
theorem R_iast {n b : Nat} {i x : Int32} {pa : List Nat} (hd : decode M.2.1 pc = .ok (.iastore, 1)) (hi : i = nI b) (hb : b < n) (hn : n < 2 ^ 31) (hq : pc + 1 = q) (kk : Wq X r d M q loc stk (uI w pa b x) Q) : Wq X r d M pc loc (vI x :: vI i :: vR 9 n pa :: stk) w Q := by
  subst hq; subst hi
  intro h1 h2 p e s m args below meth c H locs ls B hP hD hS hl
  obtain ⟨j, hj0, hj⟩ := wld_at (X := X) (w := w) (okv_obj (by omega) h2.tl.tl.hd)
  rw [cellE_int] at hj
  refine va_iast (rest := stk.map (con X)) B.1 B.2.1 B.2.2.2.2.2.2.2.1 hP hD hS j 0 hj rfl (vp_in_nI hb hn) hd ?_
  intro H1 locs1 hP1 hD1 hS1
  rw [nI_clamp (by omega)] at hP1 hD1
  have hset : (wld X r w).set j (adr X 9 pa, .inl (X.2.2.1 0, n, .inl (upd (w.1 pa) b x))) = wld X r (uI w pa b x) := by
    rw [← wld_set (w := w) (w' := uI w pa b x) hj0 (fun y hy => ⟨uA_ne hy, rfl⟩), cellE_int, uI, uA_same]
  rw [hset] at hP1 hD1
  exact kk h1 h2.tl.tl.tl p e s m args below meth c H1 locs1 ls B hP1 hD1 hS1 hl
theorem R_zast {n b : Nat} {i x : Int32} {pa : List Nat} (hd : decode M.2.1 pc = .ok (.bastore, 1)) (hi : i = nI b) (hb : b < n) (hn : n < 2 ^ 31) (hx : x &&& 1 = x) (hq : pc + 1 = q) (kk : Wq X r d M q loc stk (uI w pa b x) Q) : Wq X r d M pc loc (vI x :: vI i :: vR 10 n pa :: stk) w Q := by
  subst hq; subst hi
  intro h1 h2 p e s m args below meth c H locs ls B hP hD hS hl
  obtain ⟨j, hj0, hj⟩ := wld_at (X := X) (w := w) (okv_obj (by omega) h2.tl.tl.hd)
  rw [cellE_bool] at hj
  refine va_zast (rest := stk.map (con X)) B.1 B.2.1 B.2.2.2.2.2.2.2.1 hP hD hS j 1 hj rfl (vp_in_nI hb hn) hd ?_
  intro H1 locs1 hP1 hD1 hS1
  rw [nI_clamp (by omega), show vp_nar .boolean x = x from hx] at hP1 hD1
  have hset : (wld X r w).set j (adr X 10 pa, .inl (X.2.2.1 1, n, .inl (upd (w.1 pa) b x))) = wld X r (uI w pa b x) := by
    rw [← wld_set (w := w) (w' := uI w pa b x) hj0 (fun y hy => ⟨uA_ne hy, rfl⟩), cellE_bool, uI, uA_same]
  rw [hset] at hP1 hD1
  exact kk h1 h2.tl.tl.tl p e s m args below meth c H1 locs1 ls B hP1 hD1 hS1 hl
def dEl (k : Nat) : Int64 := match k with
  | 0 => 1
  | 1 => 1000
  | 2 => 1000000
  | 3 => 1000000000
  | _ => 1000000000000
def oBi (k : Nat) : Int32 := match k with
  | 0 => 0
  | 1 => 6
  | 2 => 2
  | 3 => 2
  | _ => 6
theorem dE_l (k : Nat) : dE k = .long (dEl k) := match k with
  | 0 => rfl
  | 1 => rfl
  | 2 => rfl
  | 3 => rfl
  | _ + 4 => rfl
theorem oB_i (k : Nat) : oB k = .int (oBi k) := match k with
  | 0 => rfl
  | 1 => rfl
  | 2 => rfl
  | 3 => rfl
  | _ + 4 => rfl
theorem R_gets13 {i : Nat} (hd : decode M.2.1 pc = .ok (.getstatic i, 3)) (hl0 : Cond.fieldLink M.2.2.2.2 i "TwoHalves" "DOINGS_END" "[J" ∈ tbG) (hq : pc + 3 = q) (kk : Wq X r d M q loc (vR 13 5 [] :: stk) w Q) : Wq X r d M pc loc stk w Q := by
  subst hq
  intro h1 h2 p e s m args below meth c H locs ls B hP hD hS hl
  exact va_gets (rest := stk.map (con X)) B.1 B.2.1 B.2.2.2.2.2.2.2.2.2.1 hS B.2.2.2.2.2.1 (B.2.2.2.2.2.2.1 _ hl0) (fun _ h => h) hd (kk h1 (okl.cons (Or.inl ⟨rfl, rfl⟩) h2) p e s m args below meth c H locs ls B hP hD hS hl)
theorem R_gets14 {i : Nat} (hd : decode M.2.1 pc = .ok (.getstatic i, 3)) (hl0 : Cond.fieldLink M.2.2.2.2 i "TwoHalves" "ORDERS_BY_LOST" "[I" ∈ tbG) (hq : pc + 3 = q) (kk : Wq X r d M q loc (vR 14 5 [] :: stk) w Q) : Wq X r d M pc loc stk w Q := by
  subst hq
  intro h1 h2 p e s m args below meth c H locs ls B hP hD hS hl
  exact va_gets (rest := stk.map (con X)) B.1 B.2.1 B.2.2.2.2.2.2.2.2.2.2.2.1 hS B.2.2.2.2.2.1 (B.2.2.2.2.2.2.1 _ hl0) (fun _ h => h) hd (kk h1 (okl.cons (Or.inr (Or.inl ⟨rfl, rfl⟩)) h2) p e s m args below meth c H locs ls B hP hD hS hl)
theorem R_lald13 {n b : Nat} {i : Int32} {pa : List Nat} (hd : decode M.2.1 pc = .ok (.laload, 1)) (hi : i = nI b) (hb : b < 5) (hq : pc + 1 = q) (kk : Wq X r d M q loc (vL (dEl b) :: stk) w Q) : Wq X r d M pc loc (vI i :: vR 13 n pa :: stk) w Q := by
  subst hq; subst hi
  intro h1 h2 p e s m args below meth c H locs ls B hP hD hS hl
  exact va_tl (v := .long (dEl b)) (rest := stk.map (con X)) B.1 B.2.1 B.2.2.2.2.2.2.2.2.2.2.1 hS (vp_in_nI hb (by decide)) (by rw [nI_clamp (by omega), dE_l]) hd (kk h1 h2.tl.tl.l p e s m args below meth c H locs ls B hP hD hS hl)
theorem R_iald14 {n b : Nat} {i : Int32} {pa : List Nat} (hd : decode M.2.1 pc = .ok (.iaload, 1)) (hi : i = nI b) (hb : b < 5) (hq : pc + 1 = q) (kk : Wq X r d M q loc (vI (oBi b) :: stk) w Q) : Wq X r d M pc loc (vI i :: vR 14 n pa :: stk) w Q := by
  subst hq; subst hi
  intro h1 h2 p e s m args below meth c H locs ls B hP hD hS hl
  exact va_ti (v := .int (oBi b)) (rest := stk.map (con X)) B.1 B.2.1 B.2.2.2.2.2.2.2.2.2.2.2.2 hS (vp_in_nI hb (by decide)) (by rw [nI_clamp (by omega), oB_i]) hd (kk h1 h2.tl.tl.i p e s m args below meth c H locs ls B hP hD hS hl)
/-- System.arraycopy of the first places -/
theorem R_copy {i n0 n1 b : Nat} {sp dp nn : Int32} {p0 p1 : List Nat} (hd : decode M.2.1 pc = .ok (.invokestatic i, 3)) (hl0 : Cond.methodLink M.2.2.2.2 i arraycopyName ∈ tbG) (hw : Cond.native arraycopyName ∈ tbG ∧ Cond.static arraycopyName ∈ tbG ∧ Cond.initialized "java/lang/System" ∈ tbG) (hsp : sp = nI 0) (hdp : dp = nI 0) (hnn : nn = nI b) (hb0 : b ≤ n0) (hb1 : b ≤ n1) (hbb : b < 2 ^ 31) (hc : (stk.map cat).sum ≤ 8) (hq : pc + 3 = q) (kk : Wq X r (d + 1) M q loc stk (uA w p1 (fun k => if k < b then w.1 p0 k else w.1 p1 k)) Q) : Wq X r (d + 1) M pc loc (vI nn :: vI dp :: vR 9 n1 p1 :: vI sp :: vR 9 n0 p0 :: stk) w Q := by
  subst hq; subst hsp; subst hdp; subst hnn
  intro h1 h2 p e s m args below meth c H locs ls B hP hD hS hl
  obtain ⟨j1, hj10, hj1⟩ := wld_at (X := X) (w := w) (okv_obj (by omega) h2.tl.tl.hd)
  obtain ⟨j0, hj00, hj0⟩ := wld_at (X := X) (w := w) (okv_obj (by omega) h2.tl.tl.tl.tl.hd)
  rw [cellE_int] at hj1 hj0
  refine va_copyi (ty := .int) (rest := stk.map (con X)) B.1 B.2.1 (B.2.2.1.trans hl.1.symm) B.2.2.2.2.2.1 (B.2.2.2.2.2.2.1 _ hl0) (B.2.2.2.2.2.2.1 _ hw.1) (B.2.2.2.2.2.2.1 _ hw.2.1) (B.2.2.2.2.2.2.1 _ hw.2.2) B.2.2.2.2.2.2.2.1 hP hD hS j0 j1 0 0 hj0 hj1 rfl rfl rfl (nI_pos (by decide)) (nI_pos (by decide)) (nI_pos hbb) (by rw [nI_clamp (by decide), nI_clamp hbb]; omega) (by rw [nI_clamp (by decide), nI_clamp hbb]; omega) (fun _ _ => rfl) (Nat.le_add_left 1 d) ?_ hd ?_
  · rw [con_sum]
    have h5 : nativeFrameWords "java/lang/System" "arraycopy" 5 + 11 ≤ 32 := by decide
    show _ ≤ 40 * (d + 1)
    omega
  · intro H1 locs1 hP1 hD1 hS1
    rw [nI_clamp (by decide), nI_clamp hbb] at hP1 hD1
    have hset : (wld X r w).set j1 (adr X 9 p1, .inl (X.2.2.1 0, n1, .inl (va_cpy (w.1 p0) (w.1 p1) 0 0 b))) = wld X r (uA w p1 (fun k => if k < b then w.1 p0 k else w.1 p1 k)) := by
      rw [← wld_set (w := w) (w' := uA w p1 (fun k => if k < b then w.1 p0 k else w.1 p1 k)) hj10 (fun y hy => ⟨uA_ne hy, rfl⟩), cellE_int, uA_same]
      have hf : va_cpy (w.1 p0) (w.1 p1) 0 0 b = fun k => if k < b then w.1 p0 k else w.1 p1 k := by
        funext k
        simp [va_cpy]
      rw [hf]
    rw [hset] at hP1 hD1
    exact kk h1 h2.tl.tl.tl.tl.tl p e s m args below meth c H1 locs1 ls B hP1 hD1 hS1 hl
/-! ends -/
theorem R_iret {v : Int32} (hd : decode M.2.1 pc = .ok (.ireturn, 1)) (hr : M.2.2.2.1 = some .int) (hQ : Q (some (vI v)) w) : Wq X r d M pc loc [vI v] w Q := by
  intro h1 h2 p e s m args below meth c H locs ls B hP hD hS hl
  exact W.iret (v := v) B.1 B.2.1 (B.2.2.2.1.trans hr) (fun t ht hW => ⟨⟨some (vI v), w, rfl, hQ, okl.nil.i, by rw [ht]; exact hP, hD⟩, hS.F ht⟩) hS.2.2 hd B.2.2.2.2.1
theorem R_zret {v : Int32} (hd : decode M.2.1 pc = .ok (.ireturn, 1)) (hr : M.2.2.2.1 = some .boolean) (hv : v &&& 1 = v) (hQ : Q (some (vI v)) w) : Wq X r d M pc loc [vI v] w Q := by
  intro h1 h2 p e s m args below meth c H locs ls B hP hD hS hl
  exact W.zret (v := v) (ty := .boolean) B.1 B.2.1 (B.2.2.2.1.trans hr) (congrArg Value.int hv) (fun t ht hW => ⟨⟨some (vI v), w, rfl, hQ, okl.nil.i, by rw [ht]; exact hP, hD⟩, hS.F ht⟩) hS.2.2 hd B.2.2.2.2.1
theorem R_lret {v : Int64} (hd : decode M.2.1 pc = .ok (.lreturn, 1)) (hr : M.2.2.2.1 = some .long) (hQ : Q (some (vL v)) w) : Wq X r d M pc loc [vL v] w Q := by
  intro h1 h2 p e s m args below meth c H locs ls B hP hD hS hl
  exact W.lret (v := v) B.1 B.2.1 (B.2.2.2.1.trans hr) (fun t ht hW => ⟨⟨some (vL v), w, rfl, hQ, okl.nil.l, by rw [ht]; exact hP, hD⟩, hS.F ht⟩) hS.2.2 hd B.2.2.2.2.1
theorem R_vret (hd : decode M.2.1 pc = .ok (.return_, 1)) (hr : M.2.2.2.1 = none) (hQ : Q none w) : Wq X r d M pc loc [] w Q := by
  intro h1 h2 p e s m args below meth c H locs ls B hP hD hS hl
  exact W.vret B.1 B.2.1 (B.2.2.2.1.trans hr) (fun t ht hW => ⟨⟨none, w, rfl, hQ, okl.nil, by rw [ht]; exact hP, hD⟩, hS.F ht⟩) hS.2.2 hd B.2.2.2.2.1
end RH
end
section
/-! calls -/
theorem Wl_blind {X : Cx} {r : Nat} {w : Wd} {av : List Value} : FrameBlind (va_Pc av (Wl X r w)) := fun a U g mk q => by
  obtain ⟨q0, qP, qD, qK, qN, qX⟩ := q
  exact ⟨q0, qP, qD, va_K.moved (u := U) (U := U.calling g mk a) (Vm.Alike.refl U.vm) qK, Ns.same (u := U) (U := U.calling g mk a) rfl qN, qX.go (Vm.Alike.refl U.vm) (fun _ _ _ => rfl)⟩
theorem Wl_at {X : Cx} {r : Nat} {w : Wd} {s U : State} {H : Heap} {locs : List Loc} (hP : va_P X.2.1 vwCl (wld X r w) H) (hD : va_D (Ar X r) (wld X r w)) (hS : va_S (Ar X r) s.heap H locs) (hK : va_K X.2.1 vwCl (tysX X) s) (hN : Ns s) (hX : Sx X r s s.heap) (hU : U.heap = H) (hW : s.WarmedH U.vm) : Wl X r w U :=
  ⟨by rw [hU]; exact hP, hD, va_K.moved hW.alike hK, hN.warm hW, hX.go hW.alike (fun a h1 h2 => by rw [hU]; exact hS.2.1 a h1 h2)⟩
theorem Wq_run {X : Cx} {r : Nat} {p : Program} {e : Env} {R : Room} {s : State} {m : MethodId} {args : Array Value} {below : List Frame} {meth : Method} {c : Code} {H : Heap} {locs : List Loc} {Q : State → Prop} {Q1 : Option AV → Wd → Prop} {pc : Nat} {ls : Array Slot} {st0 rest : List Value} {a : Array Value}
    (hr : va_Run p X.1 e R s m args below meth c H locs 0 0 0 0 (F0 m pc ls st0) rest (Qres X r Q1 a) (Ar X r)) (hS : va_S (Ar X r) s.heap H locs)
    (kk : ∀ (rv : Option AV) (w' : Wd) (H1 : Heap) (locs1 : List Loc), Q1 rv w' → okl r rv.toList → va_P X.2.1 vwCl (wld X r w') H1 → va_D (Ar X r) (wld X r w') → va_S (Ar X r) s.heap H1 locs1 → W p X.1 e R s m args below meth c H1 locs1 0 0 Q (F0 m (pc + 3) ls ((rv.map (con X)).toList ++ rest))) : W p X.1 e R s m args below meth c H locs 0 0 Q (F0 m pc ls st0) := by
  intro T hT Y
  obtain ⟨v, st₀, t, T', L, h0, Y', hL, e1, e2, ⟨⟨rv, w', hv, hq, hok, hP1, hD1⟩, hz, hk⟩, st⟩ := hr T hT Y
  cases hv
  rw [h0] at hz hk
  obtain ⟨t2, a1, b1⟩ := kk rv w' T'.heap (locs ++ L) hq hok (by rw [e1]; exact hP1) hD1
    ⟨Nat.le_trans hS.1 (by rw [e1]; exact hz), fun q h1 h2 => by rw [e1, hk q (Nat.lt_of_lt_of_le h1 hS.1) h2]; exact hS.2.1 q h1 h2, fun q hq => by
      rcases List.mem_append.mp hq with h | h
      · exact hS.2.2 q h
      · exact hL q h⟩ T' rfl Y'
  exact ⟨t2, st t2 a1, b1⟩
def mokV (M : Mth) (n a : Nat) : Prop := Cond.instanceMethod M.1 ∈ tbG ∧ Cond.selects M.1.cls M.1 M.1 ∈ tbG ∧ Cond.initialized M.1.cls ∈ tbG ∧ Cond.code M.1 M.2.1 M.2.2.1 M.2.2.2.1 ∈ tbG ∧ (M.1.cls ≠ "java/lang/invoke/MethodHandle" ∧ M.1.cls ≠ "java/lang/invoke/VarHandle" ∧ (parseMethodDescriptor M.1.desc).map (fun d => d.parameters.length) = some n) ∧ M.2.2.1 ≤ 21 ∧ a < 9 ∧ ∃ T N, vwCl[a]? = some (M.1.cls, T, N)
def mokS (M : Mth) (n : Nat) : Prop := Cond.static M.1 ∈ tbG ∧ Cond.initialized M.1.cls ∈ tbG ∧ Cond.code M.1 M.2.1 M.2.2.1 M.2.2.2.1 ∈ tbG ∧ (M.1.cls ≠ "java/lang/invoke/MethodHandle" ∧ M.1.cls ≠ "java/lang/invoke/VarHandle" ∧ (parseMethodDescriptor M.1.desc).map (fun d => d.parameters.length) = some n) ∧ M.2.2.1 ≤ 21
def ML (own : String) (i : Nat) (y : MethodName) : Prop := Cond.methodLink own i y ∈ tbG ∨ ∃ h, Cond.methodLinkNest own i y h ∈ tbN
theorem mW_good {M : Mth} (h : Cond.code M.1 M.2.1 M.2.2.1 M.2.2.2.1 ∈ tbG) : GoodIn tbG (mW M) := fun w hw => by
  rcases List.mem_cons.mp hw with rfl | hw
  · exact ⟨h, Or.inl rfl⟩
  · exact tbG_good w hw
section RC
variable {X : Cx} {r d : Nat} {M : Mth} {pc q : Nat} {loc : Lo} {stk : List AV} {w : Wd} {Q : Option AV → Wd → Prop}
theorem R_callV {M' : Mth} {As : List AV} {a n i : Nat} {pa : List Nat} {Q1 : Option AV → Wd → Prop} (hd : decode M.2.1 pc = .ok (.invokevirtual i, 3)) (hl0 : ML M.2.2.2.2 i M'.1) (hm : mokV M' As.length a) (hc : (stk.map cat).sum ≤ 8) (hq : pc + 3 = q) (hC : Ct X r d M' (vR a n pa :: As) w Q1) (kk : ∀ rv w', Q1 rv w' → Wq X r (d + 1) M q loc (rv.toList ++ stk) w' Q) : Wq X r (d + 1) M pc loc (As.reverse ++ vR a n pa :: stk) w Q := by
  subst hq
  intro h1 h2 p e s m args below meth c H locs ls B hP hD hS hl
  obtain ⟨hm1, hm2, hm3, hm4, hm5, hm6, hm7, T, N, hm8⟩ := hm
  have hst : (As.reverse ++ vR a n pa :: stk).map (con X) = (As.map (con X)).reverse ++ .ref (adr X a pa) :: stk.map (con X) := by
    rw [List.map_append, List.map_reverse]
    rfl
  have hthis : okv r (vR a n pa) := h2 _ (List.mem_append_right _ List.mem_cons_self)
  have hok : okl r (vR a n pa :: As) := okl.cons hthis (fun v hv => h2 v (List.mem_append_left _ (List.mem_reverse.mpr hv)))
  have hoks : okl r stk := fun v hv => h2 v (List.mem_append_right _ (List.mem_cons_of_mem _ hv))
  obtain ⟨j, -, hj⟩ := wld_at (X := X) (w := w) (okv_obj (by omega) hthis)
  rw [cellE_obj hm7] at hj
  rw [hst]
  have hts := B.2.2.2.2.2.2.1
  have hR : (rmD d).frames + 1 ≤ (rmD (d + 1)).frames ∧ 8 + (M'.2.2.1 + 11) + (rmD d).locals ≤ (rmD (d + 1)).locals := ⟨Nat.le_refl _, by show 8 + (M'.2.2.1 + 11) + 40 * d ≤ 40 * (d + 1); omega⟩
  have hp : PreV s H M'.1.cls (adr X a pa) (va_Pc ((vR a n pa :: As).map (con X)) (Wl X r w)) (As.map (con X)) :=
    ⟨Wl_blind, va_recv B.2.2.2.2.2.2.2.1 hP (ci := a) (q0 := j) hm8 hj, fun U hU hW => ⟨rfl, Wl_at hP hD hS B.2.2.2.2.2.2.2.1 B.2.2.2.2.2.2.2.2.1 B.2.2.2.2.2.2.2.2.2 hU hW⟩⟩
  have hrest : 2 * (F0 m pc ls ((As.map (con X)).reverse ++ .ref (adr X a pa) :: stk.map (con X))).monitorRoom + ((stk.map (con X)).map fun v => v.category).sum ≤ 8 := lv_room (by rw [con_sum]; exact hc)
  refine Wq_run (Q1 := Q1) (rest := stk.map (con X)) (a := (Value.ref (adr X a pa) :: As.map (con X)).toArray) ?_ hS (fun rv w' H1 locs1 hq1 hok1 hP1 hD1 hS1 => ?_)
  · rcases hl0 with hl0 | ⟨hh, hl0⟩
    · exact va_runV (cc := M.2.1) (nL := M.2.2.1) (Ts := tbG) (own := M.2.2.2.2) ⟨B.1, B.2.1, B.2.2.1, B.2.2.2.2.2.1, hts⟩ (hC hok) ⟨callB_of As.length hts (mW_good hm4) rfl rfl rfl (hts _ hm3) (hts _ hl0) hm5 hR, hts _ hm1, hts _ hm2⟩ hp rfl (List.length_map ..) hl.1 rfl hrest hd ⟨Nat.le_refl _, Nat.le_refl _⟩
    · exact va_runVN (cc := M.2.1) (nL := M.2.2.1) (Ts := tbG) (own := M.2.2.2.2) ⟨B.1, B.2.1, B.2.2.1, B.2.2.2.2.2.1, hts⟩ (hC hok) ⟨va_cnB As.length hts (mW_good hm4) rfl rfl rfl (B.2.2.2.2.2.2.2.2.1 _ hl0) (hts _ hm3) hm5 hR, hts _ hm1, hts _ hm2⟩ hp rfl (List.length_map ..) hl.1 rfl hrest hd ⟨Nat.le_refl _, Nat.le_refl _⟩
  · have h9 := kk rv w' hq1 h1 (fun v hv => (List.mem_append.mp hv).elim (hok1 v) (hoks v)) p e s m args below meth c H1 locs1 ls B hP1 hD1 hS1 hl
    have h8 : (rv.toList ++ stk).map (con X) = (rv.map (con X)).toList ++ stk.map (con X) := by
      rw [List.map_append]
      cases rv <;> rfl
    rw [h8] at h9
    exact h9
theorem R_callS {M' : Mth} {As : List AV} {i : Nat} {Q1 : Option AV → Wd → Prop} (hd : decode M.2.1 pc = .ok (.invokestatic i, 3)) (hl0 : ML M.2.2.2.2 i M'.1) (hm : mokS M' As.length) (hc : (stk.map cat).sum ≤ 8) (hq : pc + 3 = q) (hC : Ct X r d M' As w Q1) (kk : ∀ rv w', Q1 rv w' → Wq X r (d + 1) M q loc (rv.toList ++ stk) w' Q) : Wq X r (d + 1) M pc loc (As.reverse ++ stk) w Q := by
  subst hq
  intro h1 h2 p e s m args below meth c H locs ls B hP hD hS hl
  obtain ⟨hm1, hm3, hm4, hm5, hm6⟩ := hm
  have hst : (As.reverse ++ stk).map (con X) = (As.map (con X)).reverse ++ stk.map (con X) := by
    rw [List.map_append, List.map_reverse]
  have hok : okl r As := fun v hv => h2 v (List.mem_append_left _ (List.mem_reverse.mpr hv))
  have hoks : okl r stk := fun v hv => h2 v (List.mem_append_right _ hv)
  rw [hst]
  have hts := B.2.2.2.2.2.2.1
  have hR : (rmD d).frames + 1 ≤ (rmD (d + 1)).frames ∧ 8 + (M'.2.2.1 + 11) + (rmD d).locals ≤ (rmD (d + 1)).locals := ⟨Nat.le_refl _, by show 8 + (M'.2.2.1 + 11) + 40 * d ≤ 40 * (d + 1); omega⟩
  have hp : PreS s H (va_Pc (As.map (con X)) (Wl X r w)) (As.map (con X)) :=
    ⟨Wl_blind, fun U hU hW => ⟨rfl, Wl_at hP hD hS B.2.2.2.2.2.2.2.1 B.2.2.2.2.2.2.2.2.1 B.2.2.2.2.2.2.2.2.2 hU hW⟩⟩
  have hrest : 2 * (F0 m pc ls ((As.map (con X)).reverse ++ stk.map (con X))).monitorRoom + ((stk.map (con X)).map fun v => v.category).sum ≤ 8 := lv_room (by rw [con_sum]; exact hc)
  refine Wq_run (Q1 := Q1) (rest := stk.map (con X)) (a := (As.map (con X)).toArray) ?_ hS (fun rv w' H1 locs1 hq1 hok1 hP1 hD1 hS1 => ?_)
  · rcases hl0 with hl0 | ⟨hh, hl0⟩
    · exact va_runS (cc := M.2.1) (nL := M.2.2.1) (Ts := tbG) (own := M.2.2.2.2) ⟨B.1, B.2.1, B.2.2.1, B.2.2.2.2.2.1, hts⟩ (hC hok) ⟨callB_of As.length hts (mW_good hm4) rfl rfl rfl (hts _ hm3) (hts _ hl0) hm5 hR, hts _ hm1⟩ hp rfl (List.length_map ..) hl.1 rfl hrest hd ⟨Nat.le_refl _, Nat.le_refl _⟩
    · exact va_runSN (cc := M.2.1) (nL := M.2.2.1) (Ts := tbG) (own := M.2.2.2.2) ⟨B.1, B.2.1, B.2.2.1, B.2.2.2.2.2.1, hts⟩ (hC hok) ⟨va_cnB As.length hts (mW_good hm4) rfl rfl rfl (B.2.2.2.2.2.2.2.2.1 _ hl0) (hts _ hm3) hm5 hR, hts _ hm1, trivial⟩ hp rfl (List.length_map ..) hl.1 rfl hrest hd ⟨Nat.le_refl _, Nat.le_refl _⟩
  · have h9 := kk rv w' hq1 h1 (fun v hv => (List.mem_append.mp hv).elim (hok1 v) (hoks v)) p e s m args below meth c H1 locs1 ls B hP1 hD1 hS1 hl
    have h8 : (rv.toList ++ stk).map (con X) = (rv.map (con X)).toList ++ stk.map (con X) := by
      rw [List.map_append]
      cases rv <;> rfl
    rw [h8] at h9
    exact h9
/-- what a method answers: an int and a world; a long; nothing -/
def qI (P : Int32 → Wd → Prop) : Option AV → Wd → Prop := fun rv w => ∃ x, rv = some (vI x) ∧ P x w
def qL (P : Int64 → Wd → Prop) : Option AV → Wd → Prop := fun rv w => ∃ x, rv = some (vL x) ∧ P x w
def qV (P : Wd → Prop) : Option AV → Wd → Prop := fun rv w => rv = none ∧ P w
theorem Ct.mono {X : Cx} {r d : Nat} {M : Mth} {as : List AV} {w : Wd} {Q Q' : Option AV → Wd → Prop} (hy : plainName M.1.cls = true) (ho : M.1.cls = M.2.2.2.2) (h : Ct X r d M as w Q) (hq : ∀ rv w', Q rv w' → Q' rv w') : Ct X r d M as w Q' := by
  intro hok
  have h1 := h hok
  unfold Met at h1 ⊢
  intro p e ha hc hk s m args below hf happ hP hT
  obtain ⟨k, o, a1, a2, a3, ⟨⟨⟨rv, w', b1, b2, b3⟩, hF⟩, hL⟩⟩ := h1 p e ha hc hk s m args below hf happ hP hT
  exact ⟨k, o, a1, a2, a3, ⟨⟨rv, w', b1, hq rv w' b2, b3⟩, hF⟩, hL⟩
end RC
end
section
theorem cls0 : clsOK 0 RX0 TX0 3 tyX0 := ⟨rfl, rfl, by decide, by decide +kernel, tyX0_ok, nmX0⟩
theorem cls1 : clsOK 1 RX1 TX1 4 tyX1 := ⟨rfl, rfl, by decide, by decide +kernel, tyX1_ok, nmX1⟩
theorem cls2 : clsOK 2 RX2 TX2 3 tyX2 := ⟨rfl, rfl, by decide, by decide +kernel, tyX2_ok, nmX2⟩
theorem cls3 : clsOK 3 RX3 TX3 3 tyX3 := ⟨rfl, rfl, by decide, by decide +kernel, tyX3_ok, nmX3⟩
theorem cls4 : clsOK 4 RX4 TX4 2 tyX4 := ⟨rfl, rfl, by decide, by decide +kernel, tyX4_ok, nmX4⟩
theorem cls5 : clsOK 5 RX5 TX5 8 tyX5 := ⟨rfl, rfl, by decide, by decide +kernel, tyX5_ok, nmX5⟩
theorem cls6 : clsOK 6 RX6 TX6 2 tyX6 := ⟨rfl, rfl, by decide, by decide +kernel, tyX6_ok, nmX6⟩
theorem cls7 : clsOK 7 RX7 TX7 10 tyX7 := ⟨rfl, rfl, by decide, by decide +kernel, tyX7_ok, nmX7⟩
theorem cls8 : clsOK 8 RX8 TX8 25 tyX8 := ⟨rfl, rfl, by decide, by decide +kernel, tyX8_ok, nmX8⟩
theorem ml_L_9 : ML RL 9 yX7_init := Or.inl (tg 16 (by decide +kernel) rfl)
theorem ml_X7_11 : ML RX7 11 yX6_init := Or.inr ⟨"TwoHalves", tn 24 (by decide +kernel) rfl⟩
theorem fl_X6_9 : FL RX6 9 6 0 true (.array .int) := ⟨_, _, _, _, cls6, by decide, rfl, rfl, rfl, Or.inl (tg 28 (by decide +kernel) rfl)⟩
theorem fl_X6_15 : FL RX6 15 6 1 false .int := ⟨_, _, _, _, cls6, by decide, rfl, rfl, rfl, Or.inl (tg 29 (by decide +kernel) rfl)⟩
theorem fl_X7_69 : FL RX7 69 6 1 false .int := ⟨_, _, _, _, cls6, by decide, rfl, rfl, rfl, Or.inr ⟨"TwoHalves", tn 30 (by decide +kernel) rfl⟩⟩
theorem ml_X7_18 : ML RX7 18 yX5_init := Or.inr ⟨"TwoHalves", tn 39 (by decide +kernel) rfl⟩
theorem fl_X5_9 : FL RX5 9 5 0 false .int := ⟨_, _, _, _, cls5, by decide, rfl, rfl, rfl, Or.inl (tg 43 (by decide +kernel) rfl)⟩
theorem fl_X7_88 : FL RX7 88 5 0 false .int := ⟨_, _, _, _, cls5, by decide, rfl, rfl, rfl, Or.inr ⟨"TwoHalves", tn 44 (by decide +kernel) rfl⟩⟩
theorem fl_X5_15 : FL RX5 15 5 1 false .int := ⟨_, _, _, _, cls5, by decide, rfl, rfl, rfl, Or.inl (tg 45 (by decide +kernel) rfl)⟩
theorem fl_X7_91 : FL RX7 91 5 1 false .int := ⟨_, _, _, _, cls5, by decide, rfl, rfl, rfl, Or.inr ⟨"TwoHalves", tn 46 (by decide +kernel) rfl⟩⟩
theorem fl_X5_31 : FL RX5 31 5 2 false .int := ⟨_, _, _, _, cls5, by decide, rfl, rfl, rfl, Or.inl (tg 47 (by decide +kernel) rfl)⟩
theorem fl_X1_30 : FL RX1 30 5 2 false .int := ⟨_, _, _, _, cls5, by decide, rfl, rfl, rfl, Or.inr ⟨"TwoHalves", tn 48 (by decide +kernel) rfl⟩⟩
theorem fl_X7_85 : FL RX7 85 5 2 false .int := ⟨_, _, _, _, cls5, by decide, rfl, rfl, rfl, Or.inr ⟨"TwoHalves", tn 49 (by decide +kernel) rfl⟩⟩
theorem fl_X5_18 : FL RX5 18 5 3 false .int := ⟨_, _, _, _, cls5, by decide, rfl, rfl, rfl, Or.inl (tg 50 (by decide +kernel) rfl)⟩
theorem fl_X7_94 : FL RX7 94 5 3 false .int := ⟨_, _, _, _, cls5, by decide, rfl, rfl, rfl, Or.inr ⟨"TwoHalves", tn 51 (by decide +kernel) rfl⟩⟩
theorem fl_X5_34 : FL RX5 34 5 4 false .int := ⟨_, _, _, _, cls5, by decide, rfl, rfl, rfl, Or.inl (tg 52 (by decide +kernel) rfl)⟩
theorem fl_X7_97 : FL RX7 97 5 4 false .int := ⟨_, _, _, _, cls5, by decide, rfl, rfl, rfl, Or.inr ⟨"TwoHalves", tn 53 (by decide +kernel) rfl⟩⟩
theorem fl_X5_21 : FL RX5 21 5 5 true (.array .int) := ⟨_, _, _, _, cls5, by decide, rfl, rfl, rfl, Or.inl (tg 54 (by decide +kernel) rfl)⟩
theorem fl_X1_36 : FL RX1 36 5 5 true (.array .int) := ⟨_, _, _, _, cls5, by decide, rfl, rfl, rfl, Or.inr ⟨"TwoHalves", tn 55 (by decide +kernel) rfl⟩⟩
theorem fl_X2_60 : FL RX2 60 5 5 true (.array .int) := ⟨_, _, _, _, cls5, by decide, rfl, rfl, rfl, Or.inr ⟨"TwoHalves", tn 56 (by decide +kernel) rfl⟩⟩
theorem fl_X7_128 : FL RX7 128 5 5 true (.array .int) := ⟨_, _, _, _, cls5, by decide, rfl, rfl, rfl, Or.inr ⟨"TwoHalves", tn 57 (by decide +kernel) rfl⟩⟩
theorem fl_X5_25 : FL RX5 25 5 6 true (.array .int) := ⟨_, _, _, _, cls5, by decide, rfl, rfl, rfl, Or.inl (tg 58 (by decide +kernel) rfl)⟩
theorem fl_X1_43 : FL RX1 43 5 6 true (.array .int) := ⟨_, _, _, _, cls5, by decide, rfl, rfl, rfl, Or.inr ⟨"TwoHalves", tn 59 (by decide +kernel) rfl⟩⟩
theorem fl_X2_67 : FL RX2 67 5 6 true (.array .int) := ⟨_, _, _, _, cls5, by decide, rfl, rfl, rfl, Or.inr ⟨"TwoHalves", tn 60 (by decide +kernel) rfl⟩⟩
theorem fl_X7_131 : FL RX7 131 5 6 true (.array .int) := ⟨_, _, _, _, cls5, by decide, rfl, rfl, rfl, Or.inr ⟨"TwoHalves", tn 61 (by decide +kernel) rfl⟩⟩
theorem fl_X5_28 : FL RX5 28 5 7 true (.array .int) := ⟨_, _, _, _, cls5, by decide, rfl, rfl, rfl, Or.inl (tg 62 (by decide +kernel) rfl)⟩
theorem fl_X2_26 : FL RX2 26 5 7 true (.array .int) := ⟨_, _, _, _, cls5, by decide, rfl, rfl, rfl, Or.inr ⟨"TwoHalves", tn 63 (by decide +kernel) rfl⟩⟩
theorem fl_X7_157 : FL RX7 157 5 7 true (.array .int) := ⟨_, _, _, _, cls5, by decide, rfl, rfl, rfl, Or.inr ⟨"TwoHalves", tn 64 (by decide +kernel) rfl⟩⟩
theorem ml_X7_28 : ML RX7 28 yX0_init := Or.inr ⟨"TwoHalves", tn 84 (by decide +kernel) rfl⟩
theorem ml_X0_17 : ML RX0 17 yX5_init := Or.inr ⟨"TwoHalves", tn 90 (by decide +kernel) rfl⟩
theorem fl_X0_11 : FL RX0 11 0 0 true (.array (.object "TwoHalves$State")) := ⟨_, _, _, _, cls0, by decide, rfl, rfl, rfl, Or.inl (tg 91 (by decide +kernel) rfl)⟩
theorem fl_X0_22 : FL RX0 22 0 1 false .int := ⟨_, _, _, _, cls0, by decide, rfl, rfl, rfl, Or.inl (tg 92 (by decide +kernel) rfl)⟩
theorem fl_X0_18 : FL RX0 18 0 2 false .int := ⟨_, _, _, _, cls0, by decide, rfl, rfl, rfl, Or.inl (tg 93 (by decide +kernel) rfl)⟩
theorem fl_X7_121 : FL RX7 121 0 2 false .int := ⟨_, _, _, _, cls0, by decide, rfl, rfl, rfl, Or.inr ⟨"TwoHalves", tn 94 (by decide +kernel) rfl⟩⟩
theorem ml_X7_35 : ML RX7 35 yX4_init := Or.inr ⟨"TwoHalves", tn 104 (by decide +kernel) rfl⟩
theorem ml_X4_17 : ML RX4 17 yX5_init := Or.inr ⟨"TwoHalves", tn 109 (by decide +kernel) rfl⟩
theorem fl_X4_11 : FL RX4 11 4 0 true (.array (.object "TwoHalves$State")) := ⟨_, _, _, _, cls4, by decide, rfl, rfl, rfl, Or.inl (tg 110 (by decide +kernel) rfl)⟩
theorem fl_X4_22 : FL RX4 22 4 1 false .int := ⟨_, _, _, _, cls4, by decide, rfl, rfl, rfl, Or.inl (tg 111 (by decide +kernel) rfl)⟩
theorem ml_X7_42 : ML RX7 42 yX3_init := Or.inr ⟨"TwoHalves", tn 119 (by decide +kernel) rfl⟩
theorem fl_X3_9 : FL RX3 9 3 0 true (.array .int) := ⟨_, _, _, _, cls3, by decide, rfl, rfl, rfl, Or.inl (tg 123 (by decide +kernel) rfl)⟩
theorem fl_X3_15 : FL RX3 15 3 1 true (.array .int) := ⟨_, _, _, _, cls3, by decide, rfl, rfl, rfl, Or.inl (tg 124 (by decide +kernel) rfl)⟩
theorem fl_X3_18 : FL RX3 18 3 2 false .int := ⟨_, _, _, _, cls3, by decide, rfl, rfl, rfl, Or.inl (tg 125 (by decide +kernel) rfl)⟩
theorem fl_X7_124 : FL RX7 124 3 2 false .int := ⟨_, _, _, _, cls3, by decide, rfl, rfl, rfl, Or.inr ⟨"TwoHalves", tn 126 (by decide +kernel) rfl⟩⟩
theorem ml_X7_49 : ML RX7 49 yX1_init := Or.inr ⟨"TwoHalves", tn 136 (by decide +kernel) rfl⟩
theorem fl_X1_9 : FL RX1 9 1 0 true (.array .int) := ⟨_, _, _, _, cls1, by decide, rfl, rfl, rfl, Or.inl (tg 140 (by decide +kernel) rfl)⟩
theorem fl_X1_15 : FL RX1 15 1 1 true (.array .int) := ⟨_, _, _, _, cls1, by decide, rfl, rfl, rfl, Or.inl (tg 141 (by decide +kernel) rfl)⟩
theorem fl_X1_18 : FL RX1 18 1 2 true (.array .int) := ⟨_, _, _, _, cls1, by decide, rfl, rfl, rfl, Or.inl (tg 142 (by decide +kernel) rfl)⟩
theorem fl_X1_21 : FL RX1 21 1 3 true (.array .int) := ⟨_, _, _, _, cls1, by decide, rfl, rfl, rfl, Or.inl (tg 143 (by decide +kernel) rfl)⟩
theorem ml_X7_56 : ML RX7 56 yX2_init := Or.inr ⟨"TwoHalves", tn 155 (by decide +kernel) rfl⟩
theorem ml_X2_11 : ML RX2 11 yX1_init := Or.inr ⟨"TwoHalves", tn 160 (by decide +kernel) rfl⟩
theorem fl_X2_12 : FL RX2 12 2 0 true (.object "TwoHalves$Guesses") := ⟨_, _, _, _, cls2, by decide, rfl, rfl, rfl, Or.inl (tg 161 (by decide +kernel) rfl)⟩
theorem fl_X2_18 : FL RX2 18 2 1 true (.array .int) := ⟨_, _, _, _, cls2, by decide, rfl, rfl, rfl, Or.inl (tg 162 (by decide +kernel) rfl)⟩
theorem fl_X3_22 : FL RX3 22 2 1 true (.array .int) := ⟨_, _, _, _, cls2, by decide, rfl, rfl, rfl, Or.inr ⟨"TwoHalves", tn 163 (by decide +kernel) rfl⟩⟩
theorem fl_X7_164 : FL RX7 164 2 1 true (.array .int) := ⟨_, _, _, _, cls2, by decide, rfl, rfl, rfl, Or.inr ⟨"TwoHalves", tn 164 (by decide +kernel) rfl⟩⟩
theorem fl_X2_37 : FL RX2 37 2 2 false .int := ⟨_, _, _, _, cls2, by decide, rfl, rfl, rfl, Or.inl (tg 165 (by decide +kernel) rfl)⟩
theorem fl_X7_257 : FL RX7 257 2 2 false .int := ⟨_, _, _, _, cls2, by decide, rfl, rfl, rfl, Or.inr ⟨"TwoHalves", tn 166 (by decide +kernel) rfl⟩⟩
theorem fl_X7_12 : FL RX7 12 7 0 true (.object "TwoHalves$Text") := ⟨_, _, _, _, cls7, by decide, rfl, rfl, rfl, Or.inl (tg 174 (by decide +kernel) rfl)⟩
theorem fl_X7_19 : FL RX7 19 7 1 true (.object "TwoHalves$State") := ⟨_, _, _, _, cls7, by decide, rfl, rfl, rfl, Or.inl (tg 175 (by decide +kernel) rfl)⟩
theorem fl_X7_23 : FL RX7 23 7 2 true (.object "TwoHalves$State") := ⟨_, _, _, _, cls7, by decide, rfl, rfl, rfl, Or.inl (tg 176 (by decide +kernel) rfl)⟩
theorem fl_X7_29 : FL RX7 29 7 3 true (.object "TwoHalves$Acts") := ⟨_, _, _, _, cls7, by decide, rfl, rfl, rfl, Or.inl (tg 177 (by decide +kernel) rfl)⟩
theorem fl_X7_36 : FL RX7 36 7 4 true (.object "TwoHalves$Slots") := ⟨_, _, _, _, cls7, by decide, rfl, rfl, rfl, Or.inl (tg 178 (by decide +kernel) rfl)⟩
theorem fl_X7_43 : FL RX7 43 7 5 true (.object "TwoHalves$Seen") := ⟨_, _, _, _, cls7, by decide, rfl, rfl, rfl, Or.inl (tg 179 (by decide +kernel) rfl)⟩
theorem fl_X7_50 : FL RX7 50 7 6 true (.object "TwoHalves$Guesses") := ⟨_, _, _, _, cls7, by decide, rfl, rfl, rfl, Or.inl (tg 180 (by decide +kernel) rfl)⟩
theorem fl_X7_57 : FL RX7 57 7 7 true (.object "TwoHalves$Outcome") := ⟨_, _, _, _, cls7, by decide, rfl, rfl, rfl, Or.inl (tg 181 (by decide +kernel) rfl)⟩
theorem fl_X7_61 : FL RX7 61 7 8 true (.array .int) := ⟨_, _, _, _, cls7, by decide, rfl, rfl, rfl, Or.inl (tg 182 (by decide +kernel) rfl)⟩
theorem fl_X7_236 : FL RX7 236 7 9 false .long := ⟨_, _, _, _, cls7, by decide, rfl, rfl, rfl, Or.inl (tg 183 (by decide +kernel) rfl)⟩
theorem ml_L_13 : ML RL 13 yX7_write := Or.inl (tg 205 (by decide +kernel) rfl)
theorem ml_X7_65 : ML RX7 65 yX6_add := Or.inr ⟨"TwoHalves", tn 209 (by decide +kernel) rfl⟩
theorem ml_L_18 : ML RL 18 yX7_wipe := Or.inl (tg 213 (by decide +kernel) rfl)
theorem ml_L_23 : ML RL 23 yX7_fault := Or.inl (tg 217 (by decide +kernel) rfl)
theorem ml_X7_73 : ML RX7 73 yX6_readInto := Or.inr ⟨"TwoHalves", tn 221 (by decide +kernel) rfl⟩
theorem ml_X6_19 : ML RX6 19 yX5_renew := Or.inr ⟨"TwoHalves", tn 225 (by decide +kernel) rfl⟩
theorem ml_X5_37 : ML RX5 37 yJ7_fill_53178 := Or.inl (tg 229 (by decide +kernel) rfl)
theorem ml_X6_24 : ML RX6 24 yX6_takes := Or.inl (tg 232 (by decide +kernel) rfl)
theorem ml_X6_28 : ML RX6 28 yX5_tellRows := Or.inr ⟨"TwoHalves", tn 235 (by decide +kernel) rfl⟩
theorem ml_X6_32 : ML RX6 32 yX5_tellColumns := Or.inr ⟨"TwoHalves", tn 239 (by decide +kernel) rfl⟩
theorem ml_X6_35 : ML RX6 35 yX5_hasRoom := Or.inr ⟨"TwoHalves", tn 243 (by decide +kernel) rfl⟩
theorem ml_X6_39 : ML RX6 39 yX5_tellRow := Or.inr ⟨"TwoHalves", tn 247 (by decide +kernel) rfl⟩
theorem ml_X5_49 : ML RX5 49 yX5_hasRoom := Or.inl (tg 251 (by decide +kernel) rfl)
theorem ml_X5_53 : ML RX5 53 yX5_shadesInRow := Or.inl (tg 252 (by decide +kernel) rfl)
theorem ml_X6_42 : ML RX6 42 yX5_tellColumn := Or.inr ⟨"TwoHalves", tn 256 (by decide +kernel) rfl⟩
theorem ml_X5_57 : ML RX5 57 yX5_shadeIn := Or.inl (tg 260 (by decide +kernel) rfl)
theorem ml_L_27 : ML RL 27 yX7_map := Or.inl (tg 264 (by decide +kernel) rfl)
theorem ml_X7_77 : ML RX7 77 yX5_copy := Or.inr ⟨"TwoHalves", tn 268 (by decide +kernel) rfl⟩
theorem ac_X5_43 : Cond.methodLink RX5 43 arraycopyName ∈ tbG := tg 272 (by decide +kernel) rfl
theorem ml_X7_81 : ML RX7 81 yX0_forgetAll := Or.inr ⟨"TwoHalves", tn 275 (by decide +kernel) rfl⟩
theorem ml_X7_84 : ML RX7 84 yX4_forgetAll := Or.inr ⟨"TwoHalves", tn 279 (by decide +kernel) rfl⟩
theorem ml_L_31 : ML RL 31 yX7_about := Or.inl (tg 283 (by decide +kernel) rfl)
theorem ml_X7_100 : ML RX7 100 yX7_blankNow := Or.inl (tg 287 (by decide +kernel) rfl)
theorem ml_X7_160 : ML RX7 160 yX2_send := Or.inr ⟨"TwoHalves", tn 291 (by decide +kernel) rfl⟩
theorem ml_X2_33 : ML RX2 33 yX1_take := Or.inr ⟨"TwoHalves", tn 295 (by decide +kernel) rfl⟩
theorem ml_X1_24 : ML RX1 24 yJ7_fill_53178 := Or.inl (tg 299 (by decide +kernel) rfl)
theorem ml_X1_39 : ML RX1 39 yX1_count := Or.inl (tg 300 (by decide +kernel) rfl)
theorem ml_X1_46 : ML RX1 46 yX1_nearest := Or.inl (tg 304 (by decide +kernel) rfl)
theorem ml_X1_50 : ML RX1 50 yX1_takeSides := Or.inl (tg 307 (by decide +kernel) rfl)
theorem ml_X1_54 : ML RX1 54 yX7_square := Or.inr ⟨"TwoHalves", tn 311 (by decide +kernel) rfl⟩
theorem ml_X2_41 : ML RX2 41 yX2_came := Or.inl (tg 314 (by decide +kernel) rfl)
theorem ml_X2_45 : ML RX2 45 yX2_fill := Or.inl (tg 317 (by decide +kernel) rfl)
theorem ml_X2_57 : ML RX2 57 yX5_hasShade := Or.inr ⟨"TwoHalves", tn 321 (by decide +kernel) rfl⟩
theorem ml_X2_63 : ML RX2 63 yX1_of := Or.inr ⟨"TwoHalves", tn 325 (by decide +kernel) rfl⟩
theorem ml_X2_49 : ML RX2 49 yX2_isBlank := Or.inl (tg 329 (by decide +kernel) rfl)
theorem ml_X2_53 : ML RX2 53 yX2_fillBlank := Or.inl (tg 333 (by decide +kernel) rfl)
theorem ml_X2_70 : ML RX2 70 yX2_between := Or.inl (tg 337 (by decide +kernel) rfl)
theorem ml_X7_104 : ML RX7 104 yX2_missBy := Or.inr ⟨"TwoHalves", tn 341 (by decide +kernel) rfl⟩
theorem ml_X2_22 : ML RX2 22 yX2_send := Or.inl (tg 345 (by decide +kernel) rfl)
theorem ml_X2_29 : ML RX2 29 yX7_square := Or.inr ⟨"TwoHalves", tn 346 (by decide +kernel) rfl⟩
theorem ml_X7_108 : ML RX7 108 yX7_sideOf := Or.inl (tg 347 (by decide +kernel) rfl)
theorem ml_X7_148 : ML RX7 148 yX1_take := Or.inr ⟨"TwoHalves", tn 351 (by decide +kernel) rfl⟩
theorem ml_X7_260 : ML RX7 260 yX1_side := Or.inr ⟨"TwoHalves", tn 352 (by decide +kernel) rfl⟩
theorem ml_X7_112 : ML RX7 112 yX7_bestChange := Or.inl (tg 356 (by decide +kernel) rfl)
theorem ml_X7_172 : ML RX7 172 yX7_bothSides := Or.inl (tg 360 (by decide +kernel) rfl)
theorem ml_X7_168 : ML RX7 168 yX5_swap := Or.inr ⟨"TwoHalves", tn 364 (by decide +kernel) rfl⟩
theorem ml_X5_61 : ML RX5 61 yX5_hasShade := Or.inl (tg 368 (by decide +kernel) rfl)
theorem ml_X5_65 : ML RX5 65 yX5_put := Or.inl (tg 369 (by decide +kernel) rfl)
theorem ml_X7_115 : ML RX7 115 yX7_bestShift := Or.inl (tg 373 (by decide +kernel) rfl)
theorem ml_X7_263 : ML RX7 263 yX7_greatestMiss := Or.inl (tg 377 (by decide +kernel) rfl)
theorem ml_X7_266 : ML RX7 266 yJ9_max_7cf53 := Or.inl (tg 381 (by decide +kernel) rfl)
theorem ml_X7_118 : ML RX7 118 yX7_band := Or.inl (tg 384 (by decide +kernel) rfl)
theorem ml_X7_179 : ML RX7 179 yX5_cellsWithin := Or.inr ⟨"TwoHalves", tn 388 (by decide +kernel) rfl⟩
theorem ml_X5_69 : ML RX5 69 yJ9_abs_0f7a4 := Or.inl (tg 392 (by decide +kernel) rfl)
theorem ml_L_35 : ML RL 35 yX7_shade := Or.inl (tg 395 (by decide +kernel) rfl)
theorem ml_X7_125 : ML RX7 125 yX5_hasShade := Or.inr ⟨"TwoHalves", tn 399 (by decide +kernel) rfl⟩
theorem ml_X7_134 : ML RX7 134 yX5_timesPainted := Or.inr ⟨"TwoHalves", tn 400 (by decide +kernel) rfl⟩
theorem ml_L_40 : ML RL 40 yX7_cell := Or.inl (tg 404 (by decide +kernel) rfl)
theorem ml_X7_137 : ML RX7 137 yX5_hasCell := Or.inr ⟨"TwoHalves", tn 408 (by decide +kernel) rfl⟩
theorem ml_X7_141 : ML RX7 141 yX5_shadeIn := Or.inr ⟨"TwoHalves", tn 412 (by decide +kernel) rfl⟩
theorem ml_L_44 : ML RL 44 yX7_guess := Or.inl (tg 413 (by decide +kernel) rfl)
theorem ml_X7_145 : ML RX7 145 yX5_numbersOf := Or.inr ⟨"TwoHalves", tn 417 (by decide +kernel) rfl⟩
theorem ml_X7_151 : ML RX7 151 yX1_of := Or.inr ⟨"TwoHalves", tn 421 (by decide +kernel) rfl⟩
theorem ml_L_48 : ML RL 48 yX7_dot := Or.inl (tg 422 (by decide +kernel) rfl)
theorem ml_X7_154 : ML RX7 154 yX7_isDot := Or.inl (tg 426 (by decide +kernel) rfl)
theorem ml_L_53 : ML RL 53 yX7_change := Or.inl (tg 429 (by decide +kernel) rfl)
theorem ml_X7_165 : ML RX7 165 yX0_remember := Or.inr ⟨"TwoHalves", tn 433 (by decide +kernel) rfl⟩
theorem ml_X0_25 : ML RX0 25 yX5_copy := Or.inr ⟨"TwoHalves", tn 437 (by decide +kernel) rfl⟩
theorem ml_L_57 : ML RL 57 yX7_move := Or.inl (tg 438 (by decide +kernel) rfl)
theorem ml_X7_175 : ML RX7 175 yX5_put := Or.inr ⟨"TwoHalves", tn 442 (by decide +kernel) rfl⟩
theorem ml_L_62 : ML RL 62 yX7_lay := Or.inl (tg 443 (by decide +kernel) rfl)
theorem ml_X7_182 : ML RX7 182 yX5_layWithin := Or.inr ⟨"TwoHalves", tn 447 (by decide +kernel) rfl⟩
theorem ml_X5_74 : ML RX5 74 yX5_hasCell := Or.inl (tg 451 (by decide +kernel) rfl)
theorem ml_L_66 : ML RL 66 yX7_paint := Or.inl (tg 452 (by decide +kernel) rfl)
theorem ml_L_70 : ML RL 70 yX7_shift := Or.inl (tg 456 (by decide +kernel) rfl)
theorem ml_X7_186 : ML RX7 186 yX7_isShift := Or.inl (tg 460 (by decide +kernel) rfl)
theorem ml_L_74 : ML RL 74 yX7_lose := Or.inl (tg 463 (by decide +kernel) rfl)
theorem ml_X7_189 : ML RX7 189 yX7_isPack := Or.inl (tg 467 (by decide +kernel) rfl)
theorem ml_X7_192 : ML RX7 192 yX5_loseOrFind := Or.inr ⟨"TwoHalves", tn 470 (by decide +kernel) rfl⟩
theorem ml_L_78 : ML RL 78 yX7_undo := Or.inl (tg 474 (by decide +kernel) rfl)
theorem ml_X7_195 : ML RX7 195 yX0_takeBackInto := Or.inr ⟨"TwoHalves", tn 478 (by decide +kernel) rfl⟩
theorem ml_L_82 : ML RL 82 yX7_miss := Or.inl (tg 482 (by decide +kernel) rfl)
theorem ml_L_88 : ML RL 88 yX7_judge := Or.inl (tg 486 (by decide +kernel) rfl)
theorem lk_X7_199 : Cond.fieldLink RX7 199 "TwoHalves" "DOINGS_END" "[J" ∈ tbG := tg 490 (by decide +kernel) rfl
theorem kc_X7_203 : Cond.constantLong RX7 203 (1000) ∈ tbG := tg 492 (by decide +kernel) rfl
theorem ml_X7_205 : ML RX7 205 yX7_goesWell := Or.inl (tg 493 (by decide +kernel) rfl)
theorem ml_X7_271 : ML RX7 271 yX7_triedPack := Or.inl (tg 497 (by decide +kernel) rfl)
theorem ml_X7_274 : ML RX7 274 yX7_triedShift := Or.inl (tg 501 (by decide +kernel) rfl)
theorem ml_X7_277 : ML RX7 277 yX7_comesOutRight := Or.inl (tg 505 (by decide +kernel) rfl)
theorem ml_X7_280 : ML RX7 280 yX7_comesOutBlank := Or.inl (tg 509 (by decide +kernel) rfl)
theorem ml_X7_283 : ML RX7 283 yX7_triedChange := Or.inl (tg 513 (by decide +kernel) rfl)
theorem ml_L_93 : ML RL 93 yX7_see := Or.inl (tg 517 (by decide +kernel) rfl)
theorem ml_X7_209 : ML RX7 209 yX3_add := Or.inr ⟨"TwoHalves", tn 521 (by decide +kernel) rfl⟩
theorem ml_L_97 : ML RL 97 yX7_unsee := Or.inl (tg 525 (by decide +kernel) rfl)
theorem ml_L_101 : ML RL 101 yX7_which := Or.inl (tg 529 (by decide +kernel) rfl)
theorem ml_X7_211 : ML RX7 211 yX3_isSo := Or.inr ⟨"TwoHalves", tn 533 (by decide +kernel) rfl⟩
theorem ml_L_105 : ML RL 105 yX7_share := Or.inl (tg 537 (by decide +kernel) rfl)
theorem ml_X7_215 : ML RX7 215 yX7_tellMisses := Or.inl (tg 541 (by decide +kernel) rfl)
theorem lk_X7_218 : Cond.fieldLink RX7 218 "TwoHalves" "ORDERS_BY_LOST" "[I" ∈ tbG := tg 545 (by decide +kernel) rfl
theorem ml_X7_221 : ML RX7 221 yJ6_bitCount_0f7a4 := Or.inl (tg 547 (by decide +kernel) rfl)
theorem kc_J6_265 : Cond.constant RJ6 265 (1431655765) ∈ tbG := tg 550 (by decide +kernel) rfl
theorem kc_J6_266 : Cond.constant RJ6 266 (858993459) ∈ tbG := tg 551 (by decide +kernel) rfl
theorem kc_J6_267 : Cond.constant RJ6 267 (252645135) ∈ tbG := tg 552 (by decide +kernel) rfl
theorem ml_X7_226 : ML RX7 226 yX7_fraction := Or.inl (tg 553 (by decide +kernel) rfl)
theorem ml_X7_286 : ML RX7 286 yJ9_abs_0f7a4 := Or.inl (tg 556 (by decide +kernel) rfl)
theorem ml_X7_289 : ML RX7 289 yX7_commonDivisor := Or.inl (tg 557 (by decide +kernel) rfl)
theorem ml_L_110 : ML RL 110 yX7_chance := Or.inl (tg 560 (by decide +kernel) rfl)
theorem ml_X7_230 : ML RX7 230 yX7_isTenths := Or.inl (tg 564 (by decide +kernel) rfl)
theorem ml_X7_233 : ML RX7 233 yX7_likelihood := Or.inl (tg 567 (by decide +kernel) rfl)
theorem ml_L_114 : ML RL 114 yX7_mean := Or.inl (tg 570 (by decide +kernel) rfl)
theorem ml_L_118 : ML RL 118 yX7_seed := Or.inl (tg 574 (by decide +kernel) rfl)
theorem ml_L_123 : ML RL 123 yX7_drawn := Or.inl (tg 578 (by decide +kernel) rfl)
theorem kc_X7_240 : Cond.constantLong RX7 240 (6364136223846793005) ∈ tbG := tg 582 (by decide +kernel) rfl
theorem kc_X7_242 : Cond.constantLong RX7 242 (1442695040888963407) ∈ tbG := tg 583 (by decide +kernel) rfl
theorem ml_X7_244 : ML RX7 244 yX5_paintBy := Or.inr ⟨"TwoHalves", tn 584 (by decide +kernel) rfl⟩
theorem ml_L_127 : ML RL 127 yX7_keep := Or.inl (tg 588 (by decide +kernel) rfl)
theorem ml_X7_247 : ML RX7 247 yX7_isSlot := Or.inl (tg 592 (by decide +kernel) rfl)
theorem ml_X7_250 : ML RX7 250 yX4_put := Or.inr ⟨"TwoHalves", tn 595 (by decide +kernel) rfl⟩
theorem ml_X4_18 : ML RX4 18 yX5_copy := Or.inr ⟨"TwoHalves", tn 599 (by decide +kernel) rfl⟩
theorem ml_L_131 : ML RL 131 yX7_again := Or.inl (tg 600 (by decide +kernel) rfl)
theorem ml_X7_253 : ML RX7 253 yX4_takeInto := Or.inr ⟨"TwoHalves", tn 604 (by decide +kernel) rfl⟩
theorem ml_L_12 : ML RL 12 yX8_init := Or.inl (tg 610 (by decide +kernel) rfl)
theorem fl_X8_7 : FL RX8 7 8 0 true (.array .int) := ⟨_, _, _, _, cls8, by decide, rfl, rfl, rfl, Or.inl (tg 614 (by decide +kernel) rfl)⟩
theorem fl_X8_65 : FL RX8 65 8 1 false .int := ⟨_, _, _, _, cls8, by decide, rfl, rfl, rfl, Or.inl (tg 615 (by decide +kernel) rfl)⟩
theorem fl_X8_47 : FL RX8 47 8 2 false .int := ⟨_, _, _, _, cls8, by decide, rfl, rfl, rfl, Or.inl (tg 616 (by decide +kernel) rfl)⟩
theorem fl_X8_51 : FL RX8 51 8 3 false .int := ⟨_, _, _, _, cls8, by decide, rfl, rfl, rfl, Or.inl (tg 617 (by decide +kernel) rfl)⟩
theorem fl_X8_54 : FL RX8 54 8 4 false .int := ⟨_, _, _, _, cls8, by decide, rfl, rfl, rfl, Or.inl (tg 618 (by decide +kernel) rfl)⟩
theorem fl_X8_13 : FL RX8 13 8 5 true (.array .int) := ⟨_, _, _, _, cls8, by decide, rfl, rfl, rfl, Or.inl (tg 619 (by decide +kernel) rfl)⟩
theorem fl_X8_16 : FL RX8 16 8 6 true (.array .int) := ⟨_, _, _, _, cls8, by decide, rfl, rfl, rfl, Or.inl (tg 620 (by decide +kernel) rfl)⟩
theorem fl_X8_19 : FL RX8 19 8 7 true (.array .int) := ⟨_, _, _, _, cls8, by decide, rfl, rfl, rfl, Or.inl (tg 621 (by decide +kernel) rfl)⟩
theorem fl_X8_99 : FL RX8 99 8 8 false .int := ⟨_, _, _, _, cls8, by decide, rfl, rfl, rfl, Or.inl (tg 622 (by decide +kernel) rfl)⟩
theorem fl_X8_180 : FL RX8 180 8 9 false .int := ⟨_, _, _, _, cls8, by decide, rfl, rfl, rfl, Or.inl (tg 623 (by decide +kernel) rfl)⟩
theorem fl_X8_22 : FL RX8 22 8 10 true (.array .int) := ⟨_, _, _, _, cls8, by decide, rfl, rfl, rfl, Or.inl (tg 624 (by decide +kernel) rfl)⟩
theorem fl_X8_25 : FL RX8 25 8 11 true (.array .boolean) := ⟨_, _, _, _, cls8, by decide, rfl, rfl, rfl, Or.inl (tg 625 (by decide +kernel) rfl)⟩
theorem fl_X8_29 : FL RX8 29 8 12 true (.array .int) := ⟨_, _, _, _, cls8, by decide, rfl, rfl, rfl, Or.inl (tg 626 (by decide +kernel) rfl)⟩
theorem fl_X8_32 : FL RX8 32 8 13 true (.array .int) := ⟨_, _, _, _, cls8, by decide, rfl, rfl, rfl, Or.inl (tg 627 (by decide +kernel) rfl)⟩
theorem fl_X8_161 : FL RX8 161 8 14 false .int := ⟨_, _, _, _, cls8, by decide, rfl, rfl, rfl, Or.inl (tg 628 (by decide +kernel) rfl)⟩
theorem fl_X8_221 : FL RX8 221 8 15 false .long := ⟨_, _, _, _, cls8, by decide, rfl, rfl, rfl, Or.inl (tg 629 (by decide +kernel) rfl)⟩
theorem fl_X8_35 : FL RX8 35 8 16 true (.array .int) := ⟨_, _, _, _, cls8, by decide, rfl, rfl, rfl, Or.inl (tg 630 (by decide +kernel) rfl)⟩
theorem fl_X8_38 : FL RX8 38 8 17 true (.array .boolean) := ⟨_, _, _, _, cls8, by decide, rfl, rfl, rfl, Or.inl (tg 631 (by decide +kernel) rfl)⟩
theorem fl_X8_41 : FL RX8 41 8 18 true (.array .int) := ⟨_, _, _, _, cls8, by decide, rfl, rfl, rfl, Or.inl (tg 632 (by decide +kernel) rfl)⟩
theorem fl_X8_81 : FL RX8 81 8 19 false .int := ⟨_, _, _, _, cls8, by decide, rfl, rfl, rfl, Or.inl (tg 633 (by decide +kernel) rfl)⟩
theorem fl_X8_71 : FL RX8 71 8 20 false .int := ⟨_, _, _, _, cls8, by decide, rfl, rfl, rfl, Or.inl (tg 634 (by decide +kernel) rfl)⟩
theorem fl_X8_68 : FL RX8 68 8 21 false .int := ⟨_, _, _, _, cls8, by decide, rfl, rfl, rfl, Or.inl (tg 635 (by decide +kernel) rfl)⟩
theorem fl_X8_44 : FL RX8 44 8 22 true (.array .int) := ⟨_, _, _, _, cls8, by decide, rfl, rfl, rfl, Or.inl (tg 636 (by decide +kernel) rfl)⟩
theorem fl_X8_78 : FL RX8 78 8 23 false .int := ⟨_, _, _, _, cls8, by decide, rfl, rfl, rfl, Or.inl (tg 637 (by decide +kernel) rfl)⟩
theorem fl_X8_86 : FL RX8 86 8 24 false .int := ⟨_, _, _, _, cls8, by decide, rfl, rfl, rfl, Or.inl (tg 638 (by decide +kernel) rfl)⟩
theorem ml_L_17 : ML RL 17 yX8_write := Or.inl (tg 691 (by decide +kernel) rfl)
theorem kc_X8_63 : Cond.constantLong RX8 63 (255) ∈ tbG := tg 695 (by decide +kernel) rfl
theorem ml_X8_57 : ML RX8 57 yX8_in := Or.inl (tg 696 (by decide +kernel) rfl)
theorem ml_L_22 : ML RL 22 yX8_wipe := Or.inl (tg 699 (by decide +kernel) rfl)
theorem ml_L_26 : ML RL 26 yX8_fault := Or.inl (tg 703 (by decide +kernel) rfl)
theorem ml_X8_95 : ML RX8 95 yX8_readText := Or.inl (tg 707 (by decide +kernel) rfl)
theorem ml_X8_92 : ML RX8 92 yX8_take := Or.inl (tg 711 (by decide +kernel) rfl)
theorem kc_X8_84 : Cond.constantLong RX8 84 (6) ∈ tbG := tg 715 (by decide +kernel) rfl
theorem ml_X8_89 : ML RX8 89 yX8_hasRoomAsRead := Or.inl (tg 716 (by decide +kernel) rfl)
theorem ml_X8_74 : ML RX8 74 yX8_isEmptyAsRead := Or.inl (tg 720 (by decide +kernel) rfl)
theorem ml_L_30 : ML RL 30 yX8_map := Or.inl (tg 724 (by decide +kernel) rfl)
theorem ml_L_34 : ML RL 34 yX8_about := Or.inl (tg 728 (by decide +kernel) rfl)
theorem ml_X8_149 : ML RX8 149 yX8_blanks := Or.inl (tg 732 (by decide +kernel) rfl)
theorem ml_X8_126 : ML RX8 126 yX8_layOut := Or.inl (tg 736 (by decide +kernel) rfl)
theorem ml_X8_114 : ML RX8 114 yX8_has := Or.inl (tg 740 (by decide +kernel) rfl)
theorem ml_X8_118 : ML RX8 118 yX8_comes := Or.inl (tg 743 (by decide +kernel) rfl)
theorem ml_X8_102 : ML RX8 102 yX8_lineOf := Or.inl (tg 747 (by decide +kernel) rfl)
theorem ml_X8_106 : ML RX8 106 yX8_guessOf := Or.inl (tg 750 (by decide +kernel) rfl)
theorem ml_X8_122 : ML RX8 122 yX8_fill := Or.inl (tg 754 (by decide +kernel) rfl)
theorem ml_X8_142 : ML RX8 142 yX8_missBy := Or.inl (tg 758 (by decide +kernel) rfl)
theorem ml_X8_110 : ML RX8 110 yX8_sideOf := Or.inl (tg 762 (by decide +kernel) rfl)
theorem ml_X8_152 : ML RX8 152 yX8_bestChange := Or.inl (tg 766 (by decide +kernel) rfl)
theorem ml_X8_130 : ML RX8 130 yX8_sides := Or.inl (tg 770 (by decide +kernel) rfl)
theorem ml_X8_134 : ML RX8 134 yX8_copy := Or.inl (tg 774 (by decide +kernel) rfl)
theorem ml_X8_138 : ML RX8 138 yX8_changeOn := Or.inl (tg 777 (by decide +kernel) rfl)
theorem ml_X8_155 : ML RX8 155 yX8_bestShift := Or.inl (tg 780 (by decide +kernel) rfl)
theorem ml_X8_158 : ML RX8 158 yX8_band := Or.inl (tg 784 (by decide +kernel) rfl)
theorem ml_X8_145 : ML RX8 145 yX8_layOn := Or.inl (tg 788 (by decide +kernel) rfl)
theorem ml_L_39 : ML RL 39 yX8_shade := Or.inl (tg 792 (by decide +kernel) rfl)
theorem ml_X8_164 : ML RX8 164 yX8_isShade := Or.inl (tg 796 (by decide +kernel) rfl)
theorem ml_X8_167 : ML RX8 167 yX8_howOften := Or.inl (tg 800 (by decide +kernel) rfl)
theorem ml_L_43 : ML RL 43 yX8_cell := Or.inl (tg 804 (by decide +kernel) rfl)
theorem ml_X8_171 : ML RX8 171 yX8_isCell := Or.inl (tg 808 (by decide +kernel) rfl)
theorem ml_X8_174 : ML RX8 174 yX8_shadeAt := Or.inl (tg 812 (by decide +kernel) rfl)
theorem ml_L_47 : ML RL 47 yX8_guess := Or.inl (tg 816 (by decide +kernel) rfl)
theorem ml_L_52 : ML RL 52 yX8_dot := Or.inl (tg 820 (by decide +kernel) rfl)
theorem ml_X8_177 : ML RX8 177 yX8_isFour := Or.inl (tg 824 (by decide +kernel) rfl)
theorem kc_X8_61 : Cond.constantLong RX8 61 (3) ∈ tbG := tg 827 (by decide +kernel) rfl
theorem ml_L_56 : ML RL 56 yX8_change := Or.inl (tg 828 (by decide +kernel) rfl)
theorem ml_X8_183 : ML RX8 183 yX8_note := Or.inl (tg 832 (by decide +kernel) rfl)
theorem ml_L_61 : ML RL 61 yX8_move := Or.inl (tg 836 (by decide +kernel) rfl)
theorem ml_L_65 : ML RL 65 yX8_lay := Or.inl (tg 840 (by decide +kernel) rfl)
theorem kc_X8_186 : Cond.constantLong RX8 186 (5) ∈ tbG := tg 844 (by decide +kernel) rfl
theorem ml_L_69 : ML RL 69 yX8_paint := Or.inl (tg 845 (by decide +kernel) rfl)
theorem ml_L_73 : ML RL 73 yX8_shift := Or.inl (tg 849 (by decide +kernel) rfl)
theorem ml_L_77 : ML RL 77 yX8_lose := Or.inl (tg 853 (by decide +kernel) rfl)
theorem ml_L_81 : ML RL 81 yX8_undo := Or.inl (tg 857 (by decide +kernel) rfl)
theorem ml_L_85 : ML RL 85 yX8_miss := Or.inl (tg 861 (by decide +kernel) rfl)
theorem kc_X8_188 : Cond.constantLong RX8 188 (15) ∈ tbG := tg 865 (by decide +kernel) rfl
theorem ml_L_92 : ML RL 92 yX8_judge := Or.inl (tg 866 (by decide +kernel) rfl)
theorem kc_X8_192 : Cond.constantLong RX8 192 (4) ∈ tbG := tg 870 (by decide +kernel) rfl
theorem ml_X8_194 : ML RX8 194 yX8_thousands := Or.inl (tg 871 (by decide +kernel) rfl)
theorem kc_X8_190 : Cond.constantLong RX8 190 (1000) ∈ tbG := tg 874 (by decide +kernel) rfl
theorem ml_X8_198 : ML RX8 198 yX8_judged := Or.inl (tg 875 (by decide +kernel) rfl)
theorem ml_L_96 : ML RL 96 yX8_see := Or.inl (tg 879 (by decide +kernel) rfl)
theorem kc_X8_202 : Cond.constantLong RX8 202 (19) ∈ tbG := tg 883 (by decide +kernel) rfl
theorem ml_L_100 : ML RL 100 yX8_unsee := Or.inl (tg 884 (by decide +kernel) rfl)
theorem ml_L_104 : ML RL 104 yX8_which := Or.inl (tg 888 (by decide +kernel) rfl)
theorem ml_L_109 : ML RL 109 yX8_share := Or.inl (tg 892 (by decide +kernel) rfl)
theorem ml_X8_204 : ML RX8 204 yX8_ones := Or.inl (tg 896 (by decide +kernel) rfl)
theorem ml_X8_207 : ML RX8 207 yX8_factorial := Or.inl (tg 899 (by decide +kernel) rfl)
theorem ml_X8_210 : ML RX8 210 yX8_fraction := Or.inl (tg 902 (by decide +kernel) rfl)
theorem ml_L_113 : ML RL 113 yX8_chance := Or.inl (tg 905 (by decide +kernel) rfl)
theorem kc_X8_214 : Cond.constantLong RX8 214 (9999) ∈ tbG := tg 909 (by decide +kernel) rfl
theorem kc_X8_216 : Cond.constantLong RX8 216 (10) ∈ tbG := tg 910 (by decide +kernel) rfl
theorem ml_X8_218 : ML RX8 218 yX8_power := Or.inl (tg 911 (by decide +kernel) rfl)
theorem ml_L_117 : ML RL 117 yX8_mean := Or.inl (tg 914 (by decide +kernel) rfl)
theorem ml_L_122 : ML RL 122 yX8_seed := Or.inl (tg 918 (by decide +kernel) rfl)
theorem ml_L_126 : ML RL 126 yX8_drawn := Or.inl (tg 922 (by decide +kernel) rfl)
theorem kc_X8_225 : Cond.constantLong RX8 225 (20) ∈ tbG := tg 926 (by decide +kernel) rfl
theorem kc_X8_227 : Cond.constantLong RX8 227 (6364136223846793005) ∈ tbG := tg 927 (by decide +kernel) rfl
theorem kc_X8_229 : Cond.constantLong RX8 229 (1442695040888963407) ∈ tbG := tg 928 (by decide +kernel) rfl
theorem ml_L_130 : ML RL 130 yX8_keep := Or.inl (tg 929 (by decide +kernel) rfl)
theorem ml_L_134 : ML RL 134 yX8_again := Or.inl (tg 933 (by decide +kernel) rfl)
theorem kc_L_86 : Cond.constantLong RL 86 (4294967295) ∈ tbG := tg 937 (by decide +kernel) rfl
theorem acw : Cond.native arraycopyName ∈ tbG ∧ Cond.static arraycopyName ∈ tbG ∧ Cond.initialized "java/lang/System" ∈ tbG := ⟨tg 274 (by decide +kernel) rfl, tg 273 (by decide +kernel) rfl, tg 11 (by decide +kernel) rfl⟩
theorem mk_X0_remember : mokV MX0_remember 1 0 := ⟨tg 435 (by decide +kernel) rfl, tsl (q := (yX0_remember, 3)) 38 (by decide +kernel), tg 4 (by decide +kernel) rfl, tg 436 (by decide +kernel) rfl, ⟨by decide, by decide, by decide +kernel⟩, by decide, by decide, ⟨_, _, rfl⟩⟩
theorem mk_X0_takeBackInto : mokV MX0_takeBackInto 1 0 := ⟨tg 480 (by decide +kernel) rfl, tsl (q := (yX0_takeBackInto, 3)) 41 (by decide +kernel), tg 4 (by decide +kernel) rfl, tg 481 (by decide +kernel) rfl, ⟨by decide, by decide, by decide +kernel⟩, by decide, by decide, ⟨_, _, rfl⟩⟩
theorem mk_X0_forgetAll : mokV MX0_forgetAll 0 0 := ⟨tg 277 (by decide +kernel) rfl, tsl (q := (yX0_forgetAll, 3)) 11 (by decide +kernel), tg 4 (by decide +kernel) rfl, tg 278 (by decide +kernel) rfl, ⟨by decide, by decide, by decide +kernel⟩, by decide, by decide, ⟨_, _, rfl⟩⟩
theorem mk_X1_take : mokV MX1_take 1 1 := ⟨tg 297 (by decide +kernel) rfl, tsl (q := (yX1_take, 4)) 15 (by decide +kernel), tg 7 (by decide +kernel) rfl, tg 298 (by decide +kernel) rfl, ⟨by decide, by decide, by decide +kernel⟩, by decide, by decide, ⟨_, _, rfl⟩⟩
theorem mk_X1_count : mokV MX1_count 2 1 := ⟨tg 302 (by decide +kernel) rfl, tsl (q := (yX1_count, 4)) 16 (by decide +kernel), tg 7 (by decide +kernel) rfl, tg 303 (by decide +kernel) rfl, ⟨by decide, by decide, by decide +kernel⟩, by decide, by decide, ⟨_, _, rfl⟩⟩
theorem mk_X1_nearest : mokS MX1_nearest 2 := ⟨tg 305 (by decide +kernel) rfl, tg 7 (by decide +kernel) rfl, tg 306 (by decide +kernel) rfl, ⟨by decide, by decide, by decide +kernel⟩, by decide⟩
theorem mk_X1_takeSides : mokV MX1_takeSides 1 1 := ⟨tg 309 (by decide +kernel) rfl, tsl (q := (yX1_takeSides, 4)) 17 (by decide +kernel), tg 7 (by decide +kernel) rfl, tg 310 (by decide +kernel) rfl, ⟨by decide, by decide, by decide +kernel⟩, by decide, by decide, ⟨_, _, rfl⟩⟩
theorem mk_X1_of : mokV MX1_of 2 1 := ⟨tg 327 (by decide +kernel) rfl, tsl (q := (yX1_of, 4)) 20 (by decide +kernel), tg 7 (by decide +kernel) rfl, tg 328 (by decide +kernel) rfl, ⟨by decide, by decide, by decide +kernel⟩, by decide, by decide, ⟨_, _, rfl⟩⟩
theorem mk_X1_side : mokV MX1_side 1 1 := ⟨tg 354 (by decide +kernel) rfl, tsl (q := (yX1_side, 4)) 26 (by decide +kernel), tg 7 (by decide +kernel) rfl, tg 355 (by decide +kernel) rfl, ⟨by decide, by decide, by decide +kernel⟩, by decide, by decide, ⟨_, _, rfl⟩⟩
theorem mk_X2_missBy : mokV MX2_missBy 3 2 := ⟨tg 343 (by decide +kernel) rfl, tsl (q := (yX2_missBy, 3)) 24 (by decide +kernel), tg 8 (by decide +kernel) rfl, tg 344 (by decide +kernel) rfl, ⟨by decide, by decide, by decide +kernel⟩, by decide, by decide, ⟨_, _, rfl⟩⟩
theorem mk_X2_send : mokV MX2_send 3 2 := ⟨tg 293 (by decide +kernel) rfl, tsl (q := (yX2_send, 3)) 14 (by decide +kernel), tg 8 (by decide +kernel) rfl, tg 294 (by decide +kernel) rfl, ⟨by decide, by decide, by decide +kernel⟩, by decide, by decide, ⟨_, _, rfl⟩⟩
theorem mk_X2_came : mokS MX2_came 2 := ⟨tg 315 (by decide +kernel) rfl, tg 8 (by decide +kernel) rfl, tg 316 (by decide +kernel) rfl, ⟨by decide, by decide, by decide +kernel⟩, by decide⟩
theorem mk_X2_isBlank : mokV MX2_isBlank 1 2 := ⟨tg 331 (by decide +kernel) rfl, tsl (q := (yX2_isBlank, 3)) 21 (by decide +kernel), tg 8 (by decide +kernel) rfl, tg 332 (by decide +kernel) rfl, ⟨by decide, by decide, by decide +kernel⟩, by decide, by decide, ⟨_, _, rfl⟩⟩
theorem mk_X2_fill : mokV MX2_fill 4 2 := ⟨tg 319 (by decide +kernel) rfl, tsl (q := (yX2_fill, 3)) 18 (by decide +kernel), tg 8 (by decide +kernel) rfl, tg 320 (by decide +kernel) rfl, ⟨by decide, by decide, by decide +kernel⟩, by decide, by decide, ⟨_, _, rfl⟩⟩
theorem mk_X2_fillBlank : mokV MX2_fillBlank 1 2 := ⟨tg 335 (by decide +kernel) rfl, tsl (q := (yX2_fillBlank, 3)) 22 (by decide +kernel), tg 8 (by decide +kernel) rfl, tg 336 (by decide +kernel) rfl, ⟨by decide, by decide, by decide +kernel⟩, by decide, by decide, ⟨_, _, rfl⟩⟩
theorem mk_X2_between : mokV MX2_between 3 2 := ⟨tg 339 (by decide +kernel) rfl, tsl (q := (yX2_between, 3)) 23 (by decide +kernel), tg 8 (by decide +kernel) rfl, tg 340 (by decide +kernel) rfl, ⟨by decide, by decide, by decide +kernel⟩, by decide, by decide, ⟨_, _, rfl⟩⟩
theorem mk_X3_add : mokV MX3_add 2 3 := ⟨tg 523 (by decide +kernel) rfl, tsl (q := (yX3_add, 3)) 48 (by decide +kernel), tg 6 (by decide +kernel) rfl, tg 524 (by decide +kernel) rfl, ⟨by decide, by decide, by decide +kernel⟩, by decide, by decide, ⟨_, _, rfl⟩⟩
theorem mk_X3_isSo : mokV MX3_isSo 1 3 := ⟨tg 535 (by decide +kernel) rfl, tsl (q := (yX3_isSo, 3)) 49 (by decide +kernel), tg 6 (by decide +kernel) rfl, tg 536 (by decide +kernel) rfl, ⟨by decide, by decide, by decide +kernel⟩, by decide, by decide, ⟨_, _, rfl⟩⟩
theorem mk_X4_put : mokV MX4_put 2 4 := ⟨tg 597 (by decide +kernel) rfl, tsl (q := (yX4_put, 2)) 52 (by decide +kernel), tg 5 (by decide +kernel) rfl, tg 598 (by decide +kernel) rfl, ⟨by decide, by decide, by decide +kernel⟩, by decide, by decide, ⟨_, _, rfl⟩⟩
theorem mk_X4_takeInto : mokV MX4_takeInto 2 4 := ⟨tg 606 (by decide +kernel) rfl, tsl (q := (yX4_takeInto, 2)) 53 (by decide +kernel), tg 5 (by decide +kernel) rfl, tg 607 (by decide +kernel) rfl, ⟨by decide, by decide, by decide +kernel⟩, by decide, by decide, ⟨_, _, rfl⟩⟩
theorem mk_X4_forgetAll : mokV MX4_forgetAll 0 4 := ⟨tg 281 (by decide +kernel) rfl, tsl (q := (yX4_forgetAll, 2)) 12 (by decide +kernel), tg 5 (by decide +kernel) rfl, tg 282 (by decide +kernel) rfl, ⟨by decide, by decide, by decide +kernel⟩, by decide, by decide, ⟨_, _, rfl⟩⟩
theorem mk_X5_renew : mokV MX5_renew 0 5 := ⟨tg 227 (by decide +kernel) rfl, tsl (q := (yX5_renew, 8)) 2 (by decide +kernel), tg 3 (by decide +kernel) rfl, tg 228 (by decide +kernel) rfl, ⟨by decide, by decide, by decide +kernel⟩, by decide, by decide, ⟨_, _, rfl⟩⟩
theorem mk_X5_copy : mokV MX5_copy 1 5 := ⟨tg 270 (by decide +kernel) rfl, tsl (q := (yX5_copy, 8)) 10 (by decide +kernel), tg 3 (by decide +kernel) rfl, tg 271 (by decide +kernel) rfl, ⟨by decide, by decide, by decide +kernel⟩, by decide, by decide, ⟨_, _, rfl⟩⟩
theorem mk_X5_tellRows : mokV MX5_tellRows 1 5 := ⟨tg 237 (by decide +kernel) rfl, tsl (q := (yX5_tellRows, 8)) 3 (by decide +kernel), tg 3 (by decide +kernel) rfl, tg 238 (by decide +kernel) rfl, ⟨by decide, by decide, by decide +kernel⟩, by decide, by decide, ⟨_, _, rfl⟩⟩
theorem mk_X5_tellColumns : mokV MX5_tellColumns 1 5 := ⟨tg 241 (by decide +kernel) rfl, tsl (q := (yX5_tellColumns, 8)) 4 (by decide +kernel), tg 3 (by decide +kernel) rfl, tg 242 (by decide +kernel) rfl, ⟨by decide, by decide, by decide +kernel⟩, by decide, by decide, ⟨_, _, rfl⟩⟩
theorem mk_X5_hasRoom : mokV MX5_hasRoom 0 5 := ⟨tg 245 (by decide +kernel) rfl, tsl (q := (yX5_hasRoom, 8)) 5 (by decide +kernel), tg 3 (by decide +kernel) rfl, tg 246 (by decide +kernel) rfl, ⟨by decide, by decide, by decide +kernel⟩, by decide, by decide, ⟨_, _, rfl⟩⟩
theorem mk_X5_tellRow : mokV MX5_tellRow 1 5 := ⟨tg 249 (by decide +kernel) rfl, tsl (q := (yX5_tellRow, 8)) 6 (by decide +kernel), tg 3 (by decide +kernel) rfl, tg 250 (by decide +kernel) rfl, ⟨by decide, by decide, by decide +kernel⟩, by decide, by decide, ⟨_, _, rfl⟩⟩
theorem mk_X5_tellColumn : mokV MX5_tellColumn 1 5 := ⟨tg 258 (by decide +kernel) rfl, tsl (q := (yX5_tellColumn, 8)) 8 (by decide +kernel), tg 3 (by decide +kernel) rfl, tg 259 (by decide +kernel) rfl, ⟨by decide, by decide, by decide +kernel⟩, by decide, by decide, ⟨_, _, rfl⟩⟩
theorem mk_X5_hasShade : mokV MX5_hasShade 1 5 := ⟨tg 323 (by decide +kernel) rfl, tsl (q := (yX5_hasShade, 8)) 19 (by decide +kernel), tg 3 (by decide +kernel) rfl, tg 324 (by decide +kernel) rfl, ⟨by decide, by decide, by decide +kernel⟩, by decide, by decide, ⟨_, _, rfl⟩⟩
theorem mk_X5_hasCell : mokV MX5_hasCell 2 5 := ⟨tg 410 (by decide +kernel) rfl, tsl (q := (yX5_hasCell, 8)) 36 (by decide +kernel), tg 3 (by decide +kernel) rfl, tg 411 (by decide +kernel) rfl, ⟨by decide, by decide, by decide +kernel⟩, by decide, by decide, ⟨_, _, rfl⟩⟩
theorem mk_X5_numbersOf : mokV MX5_numbersOf 1 5 := ⟨tg 419 (by decide +kernel) rfl, tsl (q := (yX5_numbersOf, 8)) 37 (by decide +kernel), tg 3 (by decide +kernel) rfl, tg 420 (by decide +kernel) rfl, ⟨by decide, by decide, by decide +kernel⟩, by decide, by decide, ⟨_, _, rfl⟩⟩
theorem mk_X5_shadeIn : mokV MX5_shadeIn 2 5 := ⟨tg 262 (by decide +kernel) rfl, tsl (q := (yX5_shadeIn, 8)) 9 (by decide +kernel), tg 3 (by decide +kernel) rfl, tg 263 (by decide +kernel) rfl, ⟨by decide, by decide, by decide +kernel⟩, by decide, by decide, ⟨_, _, rfl⟩⟩
theorem mk_X5_shadesInRow : mokV MX5_shadesInRow 1 5 := ⟨tg 254 (by decide +kernel) rfl, tsl (q := (yX5_shadesInRow, 8)) 7 (by decide +kernel), tg 3 (by decide +kernel) rfl, tg 255 (by decide +kernel) rfl, ⟨by decide, by decide, by decide +kernel⟩, by decide, by decide, ⟨_, _, rfl⟩⟩
theorem mk_X5_timesPainted : mokV MX5_timesPainted 1 5 := ⟨tg 402 (by decide +kernel) rfl, tsl (q := (yX5_timesPainted, 8)) 35 (by decide +kernel), tg 3 (by decide +kernel) rfl, tg 403 (by decide +kernel) rfl, ⟨by decide, by decide, by decide +kernel⟩, by decide, by decide, ⟨_, _, rfl⟩⟩
theorem mk_X5_put : mokV MX5_put 3 5 := ⟨tg 371 (by decide +kernel) rfl, tsl (q := (yX5_put, 8)) 30 (by decide +kernel), tg 3 (by decide +kernel) rfl, tg 372 (by decide +kernel) rfl, ⟨by decide, by decide, by decide +kernel⟩, by decide, by decide, ⟨_, _, rfl⟩⟩
theorem mk_X5_swap : mokV MX5_swap 2 5 := ⟨tg 366 (by decide +kernel) rfl, tsl (q := (yX5_swap, 8)) 29 (by decide +kernel), tg 3 (by decide +kernel) rfl, tg 367 (by decide +kernel) rfl, ⟨by decide, by decide, by decide +kernel⟩, by decide, by decide, ⟨_, _, rfl⟩⟩
theorem mk_X5_cellsWithin : mokV MX5_cellsWithin 1 5 := ⟨tg 390 (by decide +kernel) rfl, tsl (q := (yX5_cellsWithin, 8)) 34 (by decide +kernel), tg 3 (by decide +kernel) rfl, tg 391 (by decide +kernel) rfl, ⟨by decide, by decide, by decide +kernel⟩, by decide, by decide, ⟨_, _, rfl⟩⟩
theorem mk_X5_layWithin : mokV MX5_layWithin 1 5 := ⟨tg 449 (by decide +kernel) rfl, tsl (q := (yX5_layWithin, 8)) 39 (by decide +kernel), tg 3 (by decide +kernel) rfl, tg 450 (by decide +kernel) rfl, ⟨by decide, by decide, by decide +kernel⟩, by decide, by decide, ⟨_, _, rfl⟩⟩
theorem mk_X5_loseOrFind : mokV MX5_loseOrFind 1 5 := ⟨tg 472 (by decide +kernel) rfl, tsl (q := (yX5_loseOrFind, 8)) 40 (by decide +kernel), tg 3 (by decide +kernel) rfl, tg 473 (by decide +kernel) rfl, ⟨by decide, by decide, by decide +kernel⟩, by decide, by decide, ⟨_, _, rfl⟩⟩
theorem mk_X5_paintBy : mokV MX5_paintBy 1 5 := ⟨tg 586 (by decide +kernel) rfl, tsl (q := (yX5_paintBy, 8)) 51 (by decide +kernel), tg 3 (by decide +kernel) rfl, tg 587 (by decide +kernel) rfl, ⟨by decide, by decide, by decide +kernel⟩, by decide, by decide, ⟨_, _, rfl⟩⟩
theorem mk_X6_add : mokV MX6_add 1 6 := ⟨tg 211 (by decide +kernel) rfl, tsl (q := (yX6_add, 2)) 0 (by decide +kernel), tg 2 (by decide +kernel) rfl, tg 212 (by decide +kernel) rfl, ⟨by decide, by decide, by decide +kernel⟩, by decide, by decide, ⟨_, _, rfl⟩⟩
theorem mk_X6_readInto : mokV MX6_readInto 1 6 := ⟨tg 223 (by decide +kernel) rfl, tsl (q := (yX6_readInto, 2)) 1 (by decide +kernel), tg 2 (by decide +kernel) rfl, tg 224 (by decide +kernel) rfl, ⟨by decide, by decide, by decide +kernel⟩, by decide, by decide, ⟨_, _, rfl⟩⟩
theorem mk_X6_takes : mokS MX6_takes 3 := ⟨tg 233 (by decide +kernel) rfl, tg 2 (by decide +kernel) rfl, tg 234 (by decide +kernel) rfl, ⟨by decide, by decide, by decide +kernel⟩, by decide⟩
theorem mk_X7_write : mokV MX7_write 1 7 := ⟨tg 206 (by decide +kernel) rfl, tg 207 (by decide +kernel) rfl, tg 1 (by decide +kernel) rfl, tg 208 (by decide +kernel) rfl, ⟨by decide, by decide, by decide +kernel⟩, by decide, by decide, ⟨_, _, rfl⟩⟩
theorem mk_X7_wipe : mokV MX7_wipe 0 7 := ⟨tg 214 (by decide +kernel) rfl, tg 215 (by decide +kernel) rfl, tg 1 (by decide +kernel) rfl, tg 216 (by decide +kernel) rfl, ⟨by decide, by decide, by decide +kernel⟩, by decide, by decide, ⟨_, _, rfl⟩⟩
theorem mk_X7_fault : mokV MX7_fault 0 7 := ⟨tg 218 (by decide +kernel) rfl, tg 219 (by decide +kernel) rfl, tg 1 (by decide +kernel) rfl, tg 220 (by decide +kernel) rfl, ⟨by decide, by decide, by decide +kernel⟩, by decide, by decide, ⟨_, _, rfl⟩⟩
theorem mk_X7_map : mokV MX7_map 0 7 := ⟨tg 265 (by decide +kernel) rfl, tg 266 (by decide +kernel) rfl, tg 1 (by decide +kernel) rfl, tg 267 (by decide +kernel) rfl, ⟨by decide, by decide, by decide +kernel⟩, by decide, by decide, ⟨_, _, rfl⟩⟩
theorem mk_X7_about : mokV MX7_about 1 7 := ⟨tg 284 (by decide +kernel) rfl, tg 285 (by decide +kernel) rfl, tg 1 (by decide +kernel) rfl, tg 286 (by decide +kernel) rfl, ⟨by decide, by decide, by decide +kernel⟩, by decide, by decide, ⟨_, _, rfl⟩⟩
theorem mk_X7_shade : mokV MX7_shade 2 7 := ⟨tg 396 (by decide +kernel) rfl, tg 397 (by decide +kernel) rfl, tg 1 (by decide +kernel) rfl, tg 398 (by decide +kernel) rfl, ⟨by decide, by decide, by decide +kernel⟩, by decide, by decide, ⟨_, _, rfl⟩⟩
theorem mk_X7_cell : mokV MX7_cell 2 7 := ⟨tg 405 (by decide +kernel) rfl, tg 406 (by decide +kernel) rfl, tg 1 (by decide +kernel) rfl, tg 407 (by decide +kernel) rfl, ⟨by decide, by decide, by decide +kernel⟩, by decide, by decide, ⟨_, _, rfl⟩⟩
theorem mk_X7_guess : mokV MX7_guess 2 7 := ⟨tg 414 (by decide +kernel) rfl, tg 415 (by decide +kernel) rfl, tg 1 (by decide +kernel) rfl, tg 416 (by decide +kernel) rfl, ⟨by decide, by decide, by decide +kernel⟩, by decide, by decide, ⟨_, _, rfl⟩⟩
theorem mk_X7_dot : mokV MX7_dot 3 7 := ⟨tg 423 (by decide +kernel) rfl, tg 424 (by decide +kernel) rfl, tg 1 (by decide +kernel) rfl, tg 425 (by decide +kernel) rfl, ⟨by decide, by decide, by decide +kernel⟩, by decide, by decide, ⟨_, _, rfl⟩⟩
theorem mk_X7_change : mokV MX7_change 2 7 := ⟨tg 430 (by decide +kernel) rfl, tg 431 (by decide +kernel) rfl, tg 1 (by decide +kernel) rfl, tg 432 (by decide +kernel) rfl, ⟨by decide, by decide, by decide +kernel⟩, by decide, by decide, ⟨_, _, rfl⟩⟩
theorem mk_X7_move : mokV MX7_move 3 7 := ⟨tg 439 (by decide +kernel) rfl, tg 440 (by decide +kernel) rfl, tg 1 (by decide +kernel) rfl, tg 441 (by decide +kernel) rfl, ⟨by decide, by decide, by decide +kernel⟩, by decide, by decide, ⟨_, _, rfl⟩⟩
theorem mk_X7_lay : mokV MX7_lay 1 7 := ⟨tg 444 (by decide +kernel) rfl, tg 445 (by decide +kernel) rfl, tg 1 (by decide +kernel) rfl, tg 446 (by decide +kernel) rfl, ⟨by decide, by decide, by decide +kernel⟩, by decide, by decide, ⟨_, _, rfl⟩⟩
theorem mk_X7_paint : mokV MX7_paint 3 7 := ⟨tg 453 (by decide +kernel) rfl, tg 454 (by decide +kernel) rfl, tg 1 (by decide +kernel) rfl, tg 455 (by decide +kernel) rfl, ⟨by decide, by decide, by decide +kernel⟩, by decide, by decide, ⟨_, _, rfl⟩⟩
theorem mk_X7_shift : mokV MX7_shift 1 7 := ⟨tg 457 (by decide +kernel) rfl, tg 458 (by decide +kernel) rfl, tg 1 (by decide +kernel) rfl, tg 459 (by decide +kernel) rfl, ⟨by decide, by decide, by decide +kernel⟩, by decide, by decide, ⟨_, _, rfl⟩⟩
theorem mk_X7_lose : mokV MX7_lose 1 7 := ⟨tg 464 (by decide +kernel) rfl, tg 465 (by decide +kernel) rfl, tg 1 (by decide +kernel) rfl, tg 466 (by decide +kernel) rfl, ⟨by decide, by decide, by decide +kernel⟩, by decide, by decide, ⟨_, _, rfl⟩⟩
theorem mk_X7_undo : mokV MX7_undo 0 7 := ⟨tg 475 (by decide +kernel) rfl, tg 476 (by decide +kernel) rfl, tg 1 (by decide +kernel) rfl, tg 477 (by decide +kernel) rfl, ⟨by decide, by decide, by decide +kernel⟩, by decide, by decide, ⟨_, _, rfl⟩⟩
theorem mk_X7_miss : mokV MX7_miss 1 7 := ⟨tg 483 (by decide +kernel) rfl, tg 484 (by decide +kernel) rfl, tg 1 (by decide +kernel) rfl, tg 485 (by decide +kernel) rfl, ⟨by decide, by decide, by decide +kernel⟩, by decide, by decide, ⟨_, _, rfl⟩⟩
theorem mk_X7_judge : mokV MX7_judge 2 7 := ⟨tg 487 (by decide +kernel) rfl, tg 488 (by decide +kernel) rfl, tg 1 (by decide +kernel) rfl, tg 489 (by decide +kernel) rfl, ⟨by decide, by decide, by decide +kernel⟩, by decide, by decide, ⟨_, _, rfl⟩⟩
theorem mk_X7_see : mokV MX7_see 3 7 := ⟨tg 518 (by decide +kernel) rfl, tg 519 (by decide +kernel) rfl, tg 1 (by decide +kernel) rfl, tg 520 (by decide +kernel) rfl, ⟨by decide, by decide, by decide +kernel⟩, by decide, by decide, ⟨_, _, rfl⟩⟩
theorem mk_X7_unsee : mokV MX7_unsee 0 7 := ⟨tg 526 (by decide +kernel) rfl, tg 527 (by decide +kernel) rfl, tg 1 (by decide +kernel) rfl, tg 528 (by decide +kernel) rfl, ⟨by decide, by decide, by decide +kernel⟩, by decide, by decide, ⟨_, _, rfl⟩⟩
theorem mk_X7_which : mokV MX7_which 0 7 := ⟨tg 530 (by decide +kernel) rfl, tg 531 (by decide +kernel) rfl, tg 1 (by decide +kernel) rfl, tg 532 (by decide +kernel) rfl, ⟨by decide, by decide, by decide +kernel⟩, by decide, by decide, ⟨_, _, rfl⟩⟩
theorem mk_X7_share : mokV MX7_share 2 7 := ⟨tg 538 (by decide +kernel) rfl, tg 539 (by decide +kernel) rfl, tg 1 (by decide +kernel) rfl, tg 540 (by decide +kernel) rfl, ⟨by decide, by decide, by decide +kernel⟩, by decide, by decide, ⟨_, _, rfl⟩⟩
theorem mk_X7_chance : mokV MX7_chance 3 7 := ⟨tg 561 (by decide +kernel) rfl, tg 562 (by decide +kernel) rfl, tg 1 (by decide +kernel) rfl, tg 563 (by decide +kernel) rfl, ⟨by decide, by decide, by decide +kernel⟩, by decide, by decide, ⟨_, _, rfl⟩⟩
theorem mk_X7_mean : mokV MX7_mean 2 7 := ⟨tg 571 (by decide +kernel) rfl, tg 572 (by decide +kernel) rfl, tg 1 (by decide +kernel) rfl, tg 573 (by decide +kernel) rfl, ⟨by decide, by decide, by decide +kernel⟩, by decide, by decide, ⟨_, _, rfl⟩⟩
theorem mk_X7_seed : mokV MX7_seed 1 7 := ⟨tg 575 (by decide +kernel) rfl, tg 576 (by decide +kernel) rfl, tg 1 (by decide +kernel) rfl, tg 577 (by decide +kernel) rfl, ⟨by decide, by decide, by decide +kernel⟩, by decide, by decide, ⟨_, _, rfl⟩⟩
theorem mk_X7_drawn : mokV MX7_drawn 1 7 := ⟨tg 579 (by decide +kernel) rfl, tg 580 (by decide +kernel) rfl, tg 1 (by decide +kernel) rfl, tg 581 (by decide +kernel) rfl, ⟨by decide, by decide, by decide +kernel⟩, by decide, by decide, ⟨_, _, rfl⟩⟩
theorem mk_X7_keep : mokV MX7_keep 1 7 := ⟨tg 589 (by decide +kernel) rfl, tg 590 (by decide +kernel) rfl, tg 1 (by decide +kernel) rfl, tg 591 (by decide +kernel) rfl, ⟨by decide, by decide, by decide +kernel⟩, by decide, by decide, ⟨_, _, rfl⟩⟩
theorem mk_X7_again : mokV MX7_again 1 7 := ⟨tg 601 (by decide +kernel) rfl, tg 602 (by decide +kernel) rfl, tg 1 (by decide +kernel) rfl, tg 603 (by decide +kernel) rfl, ⟨by decide, by decide, by decide +kernel⟩, by decide, by decide, ⟨_, _, rfl⟩⟩
theorem mk_X7_isDot : mokS MX7_isDot 2 := ⟨tg 427 (by decide +kernel) rfl, tg 1 (by decide +kernel) rfl, tg 428 (by decide +kernel) rfl, ⟨by decide, by decide, by decide +kernel⟩, by decide⟩
theorem mk_X7_isPack : mokS MX7_isPack 1 := ⟨tg 468 (by decide +kernel) rfl, tg 1 (by decide +kernel) rfl, tg 469 (by decide +kernel) rfl, ⟨by decide, by decide, by decide +kernel⟩, by decide⟩
theorem mk_X7_isShift : mokS MX7_isShift 1 := ⟨tg 461 (by decide +kernel) rfl, tg 1 (by decide +kernel) rfl, tg 462 (by decide +kernel) rfl, ⟨by decide, by decide, by decide +kernel⟩, by decide⟩
theorem mk_X7_isTenths : mokS MX7_isTenths 1 := ⟨tg 565 (by decide +kernel) rfl, tg 1 (by decide +kernel) rfl, tg 566 (by decide +kernel) rfl, ⟨by decide, by decide, by decide +kernel⟩, by decide⟩
theorem mk_X7_isSlot : mokS MX7_isSlot 1 := ⟨tg 593 (by decide +kernel) rfl, tg 1 (by decide +kernel) rfl, tg 594 (by decide +kernel) rfl, ⟨by decide, by decide, by decide +kernel⟩, by decide⟩
theorem mk_X7_blankNow : mokV MX7_blankNow 0 7 := ⟨tg 289 (by decide +kernel) rfl, tsl (q := (yX7_blankNow, 10)) 13 (by decide +kernel), tg 1 (by decide +kernel) rfl, tg 290 (by decide +kernel) rfl, ⟨by decide, by decide, by decide +kernel⟩, by decide, by decide, ⟨_, _, rfl⟩⟩
theorem mk_X7_sideOf : mokV MX7_sideOf 1 7 := ⟨tg 349 (by decide +kernel) rfl, tsl (q := (yX7_sideOf, 10)) 25 (by decide +kernel), tg 1 (by decide +kernel) rfl, tg 350 (by decide +kernel) rfl, ⟨by decide, by decide, by decide +kernel⟩, by decide, by decide, ⟨_, _, rfl⟩⟩
theorem mk_X7_bothSides : mokV MX7_bothSides 1 7 := ⟨tg 362 (by decide +kernel) rfl, tsl (q := (yX7_bothSides, 10)) 28 (by decide +kernel), tg 1 (by decide +kernel) rfl, tg 363 (by decide +kernel) rfl, ⟨by decide, by decide, by decide +kernel⟩, by decide, by decide, ⟨_, _, rfl⟩⟩
theorem mk_X7_bestChange : mokV MX7_bestChange 0 7 := ⟨tg 358 (by decide +kernel) rfl, tsl (q := (yX7_bestChange, 10)) 27 (by decide +kernel), tg 1 (by decide +kernel) rfl, tg 359 (by decide +kernel) rfl, ⟨by decide, by decide, by decide +kernel⟩, by decide, by decide, ⟨_, _, rfl⟩⟩
theorem mk_X7_bestShift : mokV MX7_bestShift 0 7 := ⟨tg 375 (by decide +kernel) rfl, tsl (q := (yX7_bestShift, 10)) 31 (by decide +kernel), tg 1 (by decide +kernel) rfl, tg 376 (by decide +kernel) rfl, ⟨by decide, by decide, by decide +kernel⟩, by decide, by decide, ⟨_, _, rfl⟩⟩
theorem mk_X7_greatestMiss : mokV MX7_greatestMiss 1 7 := ⟨tg 379 (by decide +kernel) rfl, tsl (q := (yX7_greatestMiss, 10)) 32 (by decide +kernel), tg 1 (by decide +kernel) rfl, tg 380 (by decide +kernel) rfl, ⟨by decide, by decide, by decide +kernel⟩, by decide, by decide, ⟨_, _, rfl⟩⟩
theorem mk_X7_band : mokV MX7_band 0 7 := ⟨tg 386 (by decide +kernel) rfl, tsl (q := (yX7_band, 10)) 33 (by decide +kernel), tg 1 (by decide +kernel) rfl, tg 387 (by decide +kernel) rfl, ⟨by decide, by decide, by decide +kernel⟩, by decide, by decide, ⟨_, _, rfl⟩⟩
theorem mk_X7_goesWell : mokV MX7_goesWell 3 7 := ⟨tg 495 (by decide +kernel) rfl, tsl (q := (yX7_goesWell, 10)) 42 (by decide +kernel), tg 1 (by decide +kernel) rfl, tg 496 (by decide +kernel) rfl, ⟨by decide, by decide, by decide +kernel⟩, by decide, by decide, ⟨_, _, rfl⟩⟩
theorem mk_X7_triedPack : mokV MX7_triedPack 1 7 := ⟨tg 499 (by decide +kernel) rfl, tsl (q := (yX7_triedPack, 10)) 43 (by decide +kernel), tg 1 (by decide +kernel) rfl, tg 500 (by decide +kernel) rfl, ⟨by decide, by decide, by decide +kernel⟩, by decide, by decide, ⟨_, _, rfl⟩⟩
theorem mk_X7_triedShift : mokV MX7_triedShift 1 7 := ⟨tg 503 (by decide +kernel) rfl, tsl (q := (yX7_triedShift, 10)) 44 (by decide +kernel), tg 1 (by decide +kernel) rfl, tg 504 (by decide +kernel) rfl, ⟨by decide, by decide, by decide +kernel⟩, by decide, by decide, ⟨_, _, rfl⟩⟩
theorem mk_X7_comesOutRight : mokV MX7_comesOutRight 1 7 := ⟨tg 507 (by decide +kernel) rfl, tsl (q := (yX7_comesOutRight, 10)) 45 (by decide +kernel), tg 1 (by decide +kernel) rfl, tg 508 (by decide +kernel) rfl, ⟨by decide, by decide, by decide +kernel⟩, by decide, by decide, ⟨_, _, rfl⟩⟩
theorem mk_X7_comesOutBlank : mokV MX7_comesOutBlank 1 7 := ⟨tg 511 (by decide +kernel) rfl, tsl (q := (yX7_comesOutBlank, 10)) 46 (by decide +kernel), tg 1 (by decide +kernel) rfl, tg 512 (by decide +kernel) rfl, ⟨by decide, by decide, by decide +kernel⟩, by decide, by decide, ⟨_, _, rfl⟩⟩
theorem mk_X7_triedChange : mokV MX7_triedChange 2 7 := ⟨tg 515 (by decide +kernel) rfl, tsl (q := (yX7_triedChange, 10)) 47 (by decide +kernel), tg 1 (by decide +kernel) rfl, tg 516 (by decide +kernel) rfl, ⟨by decide, by decide, by decide +kernel⟩, by decide, by decide, ⟨_, _, rfl⟩⟩
theorem mk_X7_tellMisses : mokV MX7_tellMisses 0 7 := ⟨tg 543 (by decide +kernel) rfl, tsl (q := (yX7_tellMisses, 10)) 50 (by decide +kernel), tg 1 (by decide +kernel) rfl, tg 544 (by decide +kernel) rfl, ⟨by decide, by decide, by decide +kernel⟩, by decide, by decide, ⟨_, _, rfl⟩⟩
theorem mk_X7_likelihood : mokS MX7_likelihood 2 := ⟨tg 568 (by decide +kernel) rfl, tg 1 (by decide +kernel) rfl, tg 569 (by decide +kernel) rfl, ⟨by decide, by decide, by decide +kernel⟩, by decide⟩
theorem mk_X7_fraction : mokS MX7_fraction 3 := ⟨tg 554 (by decide +kernel) rfl, tg 1 (by decide +kernel) rfl, tg 555 (by decide +kernel) rfl, ⟨by decide, by decide, by decide +kernel⟩, by decide⟩
theorem mk_X7_commonDivisor : mokS MX7_commonDivisor 2 := ⟨tg 558 (by decide +kernel) rfl, tg 1 (by decide +kernel) rfl, tg 559 (by decide +kernel) rfl, ⟨by decide, by decide, by decide +kernel⟩, by decide⟩
theorem mk_X7_square : mokS MX7_square 1 := ⟨tg 312 (by decide +kernel) rfl, tg 1 (by decide +kernel) rfl, tg 313 (by decide +kernel) rfl, ⟨by decide, by decide, by decide +kernel⟩, by decide⟩
theorem mk_X8_copy : mokS MX8_copy 2 := ⟨tg 775 (by decide +kernel) rfl, tg 9 (by decide +kernel) rfl, tg 776 (by decide +kernel) rfl, ⟨by decide, by decide, by decide +kernel⟩, by decide⟩
theorem mk_X8_in : mokS MX8_in 3 := ⟨tg 697 (by decide +kernel) rfl, tg 9 (by decide +kernel) rfl, tg 698 (by decide +kernel) rfl, ⟨by decide, by decide, by decide +kernel⟩, by decide⟩
theorem mk_X8_has : mokS MX8_has 2 := ⟨tg 741 (by decide +kernel) rfl, tg 9 (by decide +kernel) rfl, tg 742 (by decide +kernel) rfl, ⟨by decide, by decide, by decide +kernel⟩, by decide⟩
theorem mk_X8_ones : mokS MX8_ones 1 := ⟨tg 897 (by decide +kernel) rfl, tg 9 (by decide +kernel) rfl, tg 898 (by decide +kernel) rfl, ⟨by decide, by decide, by decide +kernel⟩, by decide⟩
theorem mk_X8_power : mokS MX8_power 2 := ⟨tg 912 (by decide +kernel) rfl, tg 9 (by decide +kernel) rfl, tg 913 (by decide +kernel) rfl, ⟨by decide, by decide, by decide +kernel⟩, by decide⟩
theorem mk_X8_factorial : mokS MX8_factorial 1 := ⟨tg 900 (by decide +kernel) rfl, tg 9 (by decide +kernel) rfl, tg 901 (by decide +kernel) rfl, ⟨by decide, by decide, by decide +kernel⟩, by decide⟩
theorem mk_X8_fraction : mokS MX8_fraction 3 := ⟨tg 903 (by decide +kernel) rfl, tg 9 (by decide +kernel) rfl, tg 904 (by decide +kernel) rfl, ⟨by decide, by decide, by decide +kernel⟩, by decide⟩
theorem mk_X8_isShade : mokV MX8_isShade 1 8 := ⟨tg 798 (by decide +kernel) rfl, tsl (q := (yX8_isShade, 25)) 70 (by decide +kernel), tg 9 (by decide +kernel) rfl, tg 799 (by decide +kernel) rfl, ⟨by decide, by decide, by decide +kernel⟩, by decide, by decide, ⟨_, _, rfl⟩⟩
theorem mk_X8_isFour : mokS MX8_isFour 1 := ⟨tg 825 (by decide +kernel) rfl, tg 9 (by decide +kernel) rfl, tg 826 (by decide +kernel) rfl, ⟨by decide, by decide, by decide +kernel⟩, by decide⟩
theorem mk_X8_write : mokV MX8_write 1 8 := ⟨tg 692 (by decide +kernel) rfl, tg 693 (by decide +kernel) rfl, tg 9 (by decide +kernel) rfl, tg 694 (by decide +kernel) rfl, ⟨by decide, by decide, by decide +kernel⟩, by decide, by decide, ⟨_, _, rfl⟩⟩
theorem mk_X8_wipe : mokV MX8_wipe 0 8 := ⟨tg 700 (by decide +kernel) rfl, tg 701 (by decide +kernel) rfl, tg 9 (by decide +kernel) rfl, tg 702 (by decide +kernel) rfl, ⟨by decide, by decide, by decide +kernel⟩, by decide, by decide, ⟨_, _, rfl⟩⟩
theorem mk_X8_isEmptyAsRead : mokV MX8_isEmptyAsRead 1 8 := ⟨tg 722 (by decide +kernel) rfl, tsl (q := (yX8_isEmptyAsRead, 25)) 57 (by decide +kernel), tg 9 (by decide +kernel) rfl, tg 723 (by decide +kernel) rfl, ⟨by decide, by decide, by decide +kernel⟩, by decide, by decide, ⟨_, _, rfl⟩⟩
theorem mk_X8_hasRoomAsRead : mokV MX8_hasRoomAsRead 1 8 := ⟨tg 718 (by decide +kernel) rfl, tsl (q := (yX8_hasRoomAsRead, 25)) 56 (by decide +kernel), tg 9 (by decide +kernel) rfl, tg 719 (by decide +kernel) rfl, ⟨by decide, by decide, by decide +kernel⟩, by decide, by decide, ⟨_, _, rfl⟩⟩
theorem mk_X8_take : mokV MX8_take 1 8 := ⟨tg 713 (by decide +kernel) rfl, tsl (q := (yX8_take, 25)) 55 (by decide +kernel), tg 9 (by decide +kernel) rfl, tg 714 (by decide +kernel) rfl, ⟨by decide, by decide, by decide +kernel⟩, by decide, by decide, ⟨_, _, rfl⟩⟩
theorem mk_X8_readText : mokV MX8_readText 0 8 := ⟨tg 709 (by decide +kernel) rfl, tsl (q := (yX8_readText, 25)) 54 (by decide +kernel), tg 9 (by decide +kernel) rfl, tg 710 (by decide +kernel) rfl, ⟨by decide, by decide, by decide +kernel⟩, by decide, by decide, ⟨_, _, rfl⟩⟩
theorem mk_X8_fault : mokV MX8_fault 0 8 := ⟨tg 704 (by decide +kernel) rfl, tg 705 (by decide +kernel) rfl, tg 9 (by decide +kernel) rfl, tg 706 (by decide +kernel) rfl, ⟨by decide, by decide, by decide +kernel⟩, by decide, by decide, ⟨_, _, rfl⟩⟩
theorem mk_X8_map : mokV MX8_map 0 8 := ⟨tg 725 (by decide +kernel) rfl, tg 726 (by decide +kernel) rfl, tg 9 (by decide +kernel) rfl, tg 727 (by decide +kernel) rfl, ⟨by decide, by decide, by decide +kernel⟩, by decide, by decide, ⟨_, _, rfl⟩⟩
theorem mk_X8_lineOf : mokS MX8_lineOf 2 := ⟨tg 748 (by decide +kernel) rfl, tg 9 (by decide +kernel) rfl, tg 749 (by decide +kernel) rfl, ⟨by decide, by decide, by decide +kernel⟩, by decide⟩
theorem mk_X8_guessOf : mokV MX8_guessOf 3 8 := ⟨tg 752 (by decide +kernel) rfl, tsl (q := (yX8_guessOf, 25)) 61 (by decide +kernel), tg 9 (by decide +kernel) rfl, tg 753 (by decide +kernel) rfl, ⟨by decide, by decide, by decide +kernel⟩, by decide, by decide, ⟨_, _, rfl⟩⟩
theorem mk_X8_sideOf : mokV MX8_sideOf 2 8 := ⟨tg 764 (by decide +kernel) rfl, tsl (q := (yX8_sideOf, 25)) 64 (by decide +kernel), tg 9 (by decide +kernel) rfl, tg 765 (by decide +kernel) rfl, ⟨by decide, by decide, by decide +kernel⟩, by decide, by decide, ⟨_, _, rfl⟩⟩
theorem mk_X8_sides : mokV MX8_sides 1 8 := ⟨tg 772 (by decide +kernel) rfl, tsl (q := (yX8_sides, 25)) 66 (by decide +kernel), tg 9 (by decide +kernel) rfl, tg 773 (by decide +kernel) rfl, ⟨by decide, by decide, by decide +kernel⟩, by decide, by decide, ⟨_, _, rfl⟩⟩
theorem mk_X8_comes : mokV MX8_comes 5 8 := ⟨tg 745 (by decide +kernel) rfl, tsl (q := (yX8_comes, 25)) 60 (by decide +kernel), tg 9 (by decide +kernel) rfl, tg 746 (by decide +kernel) rfl, ⟨by decide, by decide, by decide +kernel⟩, by decide, by decide, ⟨_, _, rfl⟩⟩
theorem mk_X8_fill : mokV MX8_fill 1 8 := ⟨tg 756 (by decide +kernel) rfl, tsl (q := (yX8_fill, 25)) 62 (by decide +kernel), tg 9 (by decide +kernel) rfl, tg 757 (by decide +kernel) rfl, ⟨by decide, by decide, by decide +kernel⟩, by decide, by decide, ⟨_, _, rfl⟩⟩
theorem mk_X8_layOut : mokV MX8_layOut 2 8 := ⟨tg 738 (by decide +kernel) rfl, tsl (q := (yX8_layOut, 25)) 59 (by decide +kernel), tg 9 (by decide +kernel) rfl, tg 739 (by decide +kernel) rfl, ⟨by decide, by decide, by decide +kernel⟩, by decide, by decide, ⟨_, _, rfl⟩⟩
theorem mk_X8_missBy : mokV MX8_missBy 2 8 := ⟨tg 760 (by decide +kernel) rfl, tsl (q := (yX8_missBy, 25)) 63 (by decide +kernel), tg 9 (by decide +kernel) rfl, tg 761 (by decide +kernel) rfl, ⟨by decide, by decide, by decide +kernel⟩, by decide, by decide, ⟨_, _, rfl⟩⟩
theorem mk_X8_blanks : mokV MX8_blanks 0 8 := ⟨tg 734 (by decide +kernel) rfl, tsl (q := (yX8_blanks, 25)) 58 (by decide +kernel), tg 9 (by decide +kernel) rfl, tg 735 (by decide +kernel) rfl, ⟨by decide, by decide, by decide +kernel⟩, by decide, by decide, ⟨_, _, rfl⟩⟩
theorem mk_X8_changeOn : mokS MX8_changeOn 3 := ⟨tg 778 (by decide +kernel) rfl, tg 9 (by decide +kernel) rfl, tg 779 (by decide +kernel) rfl, ⟨by decide, by decide, by decide +kernel⟩, by decide⟩
theorem mk_X8_bestChange : mokV MX8_bestChange 0 8 := ⟨tg 768 (by decide +kernel) rfl, tsl (q := (yX8_bestChange, 25)) 65 (by decide +kernel), tg 9 (by decide +kernel) rfl, tg 769 (by decide +kernel) rfl, ⟨by decide, by decide, by decide +kernel⟩, by decide, by decide, ⟨_, _, rfl⟩⟩
theorem mk_X8_bestShift : mokV MX8_bestShift 0 8 := ⟨tg 782 (by decide +kernel) rfl, tsl (q := (yX8_bestShift, 25)) 67 (by decide +kernel), tg 9 (by decide +kernel) rfl, tg 783 (by decide +kernel) rfl, ⟨by decide, by decide, by decide +kernel⟩, by decide, by decide, ⟨_, _, rfl⟩⟩
theorem mk_X8_layOn : mokV MX8_layOn 2 8 := ⟨tg 790 (by decide +kernel) rfl, tsl (q := (yX8_layOn, 25)) 69 (by decide +kernel), tg 9 (by decide +kernel) rfl, tg 791 (by decide +kernel) rfl, ⟨by decide, by decide, by decide +kernel⟩, by decide, by decide, ⟨_, _, rfl⟩⟩
theorem mk_X8_band : mokV MX8_band 0 8 := ⟨tg 786 (by decide +kernel) rfl, tsl (q := (yX8_band, 25)) 68 (by decide +kernel), tg 9 (by decide +kernel) rfl, tg 787 (by decide +kernel) rfl, ⟨by decide, by decide, by decide +kernel⟩, by decide, by decide, ⟨_, _, rfl⟩⟩
theorem mk_X8_about : mokV MX8_about 1 8 := ⟨tg 729 (by decide +kernel) rfl, tg 730 (by decide +kernel) rfl, tg 9 (by decide +kernel) rfl, tg 731 (by decide +kernel) rfl, ⟨by decide, by decide, by decide +kernel⟩, by decide, by decide, ⟨_, _, rfl⟩⟩
theorem mk_X8_howOften : mokV MX8_howOften 1 8 := ⟨tg 802 (by decide +kernel) rfl, tsl (q := (yX8_howOften, 25)) 71 (by decide +kernel), tg 9 (by decide +kernel) rfl, tg 803 (by decide +kernel) rfl, ⟨by decide, by decide, by decide +kernel⟩, by decide, by decide, ⟨_, _, rfl⟩⟩
theorem mk_X8_shade : mokV MX8_shade 2 8 := ⟨tg 793 (by decide +kernel) rfl, tg 794 (by decide +kernel) rfl, tg 9 (by decide +kernel) rfl, tg 795 (by decide +kernel) rfl, ⟨by decide, by decide, by decide +kernel⟩, by decide, by decide, ⟨_, _, rfl⟩⟩
theorem mk_X8_shadeAt : mokV MX8_shadeAt 1 8 := ⟨tg 814 (by decide +kernel) rfl, tsl (q := (yX8_shadeAt, 25)) 73 (by decide +kernel), tg 9 (by decide +kernel) rfl, tg 815 (by decide +kernel) rfl, ⟨by decide, by decide, by decide +kernel⟩, by decide, by decide, ⟨_, _, rfl⟩⟩
theorem mk_X8_isCell : mokV MX8_isCell 2 8 := ⟨tg 810 (by decide +kernel) rfl, tsl (q := (yX8_isCell, 25)) 72 (by decide +kernel), tg 9 (by decide +kernel) rfl, tg 811 (by decide +kernel) rfl, ⟨by decide, by decide, by decide +kernel⟩, by decide, by decide, ⟨_, _, rfl⟩⟩
theorem mk_X8_cell : mokV MX8_cell 2 8 := ⟨tg 805 (by decide +kernel) rfl, tg 806 (by decide +kernel) rfl, tg 9 (by decide +kernel) rfl, tg 807 (by decide +kernel) rfl, ⟨by decide, by decide, by decide +kernel⟩, by decide, by decide, ⟨_, _, rfl⟩⟩
theorem mk_X8_guess : mokV MX8_guess 2 8 := ⟨tg 817 (by decide +kernel) rfl, tg 818 (by decide +kernel) rfl, tg 9 (by decide +kernel) rfl, tg 819 (by decide +kernel) rfl, ⟨by decide, by decide, by decide +kernel⟩, by decide, by decide, ⟨_, _, rfl⟩⟩
theorem mk_X8_dot : mokV MX8_dot 3 8 := ⟨tg 821 (by decide +kernel) rfl, tg 822 (by decide +kernel) rfl, tg 9 (by decide +kernel) rfl, tg 823 (by decide +kernel) rfl, ⟨by decide, by decide, by decide +kernel⟩, by decide, by decide, ⟨_, _, rfl⟩⟩
theorem mk_X8_note : mokV MX8_note 0 8 := ⟨tg 834 (by decide +kernel) rfl, tsl (q := (yX8_note, 25)) 74 (by decide +kernel), tg 9 (by decide +kernel) rfl, tg 835 (by decide +kernel) rfl, ⟨by decide, by decide, by decide +kernel⟩, by decide, by decide, ⟨_, _, rfl⟩⟩
theorem mk_X8_change : mokV MX8_change 2 8 := ⟨tg 829 (by decide +kernel) rfl, tg 830 (by decide +kernel) rfl, tg 9 (by decide +kernel) rfl, tg 831 (by decide +kernel) rfl, ⟨by decide, by decide, by decide +kernel⟩, by decide, by decide, ⟨_, _, rfl⟩⟩
theorem mk_X8_move : mokV MX8_move 3 8 := ⟨tg 837 (by decide +kernel) rfl, tg 838 (by decide +kernel) rfl, tg 9 (by decide +kernel) rfl, tg 839 (by decide +kernel) rfl, ⟨by decide, by decide, by decide +kernel⟩, by decide, by decide, ⟨_, _, rfl⟩⟩
theorem mk_X8_lay : mokV MX8_lay 1 8 := ⟨tg 841 (by decide +kernel) rfl, tg 842 (by decide +kernel) rfl, tg 9 (by decide +kernel) rfl, tg 843 (by decide +kernel) rfl, ⟨by decide, by decide, by decide +kernel⟩, by decide, by decide, ⟨_, _, rfl⟩⟩
theorem mk_X8_paint : mokV MX8_paint 3 8 := ⟨tg 846 (by decide +kernel) rfl, tg 847 (by decide +kernel) rfl, tg 9 (by decide +kernel) rfl, tg 848 (by decide +kernel) rfl, ⟨by decide, by decide, by decide +kernel⟩, by decide, by decide, ⟨_, _, rfl⟩⟩
theorem mk_X8_shift : mokV MX8_shift 1 8 := ⟨tg 850 (by decide +kernel) rfl, tg 851 (by decide +kernel) rfl, tg 9 (by decide +kernel) rfl, tg 852 (by decide +kernel) rfl, ⟨by decide, by decide, by decide +kernel⟩, by decide, by decide, ⟨_, _, rfl⟩⟩
theorem mk_X8_lose : mokV MX8_lose 1 8 := ⟨tg 854 (by decide +kernel) rfl, tg 855 (by decide +kernel) rfl, tg 9 (by decide +kernel) rfl, tg 856 (by decide +kernel) rfl, ⟨by decide, by decide, by decide +kernel⟩, by decide, by decide, ⟨_, _, rfl⟩⟩
theorem mk_X8_undo : mokV MX8_undo 0 8 := ⟨tg 858 (by decide +kernel) rfl, tg 859 (by decide +kernel) rfl, tg 9 (by decide +kernel) rfl, tg 860 (by decide +kernel) rfl, ⟨by decide, by decide, by decide +kernel⟩, by decide, by decide, ⟨_, _, rfl⟩⟩
theorem mk_X8_miss : mokV MX8_miss 1 8 := ⟨tg 862 (by decide +kernel) rfl, tg 863 (by decide +kernel) rfl, tg 9 (by decide +kernel) rfl, tg 864 (by decide +kernel) rfl, ⟨by decide, by decide, by decide +kernel⟩, by decide, by decide, ⟨_, _, rfl⟩⟩
theorem mk_X8_judged : mokV MX8_judged 3 8 := ⟨tg 877 (by decide +kernel) rfl, tsl (q := (yX8_judged, 25)) 75 (by decide +kernel), tg 9 (by decide +kernel) rfl, tg 878 (by decide +kernel) rfl, ⟨by decide, by decide, by decide +kernel⟩, by decide, by decide, ⟨_, _, rfl⟩⟩
theorem mk_X8_thousands : mokS MX8_thousands 1 := ⟨tg 872 (by decide +kernel) rfl, tg 9 (by decide +kernel) rfl, tg 873 (by decide +kernel) rfl, ⟨by decide, by decide, by decide +kernel⟩, by decide⟩
theorem mk_X8_judge : mokV MX8_judge 2 8 := ⟨tg 867 (by decide +kernel) rfl, tg 868 (by decide +kernel) rfl, tg 9 (by decide +kernel) rfl, tg 869 (by decide +kernel) rfl, ⟨by decide, by decide, by decide +kernel⟩, by decide, by decide, ⟨_, _, rfl⟩⟩
theorem mk_X8_see : mokV MX8_see 3 8 := ⟨tg 880 (by decide +kernel) rfl, tg 881 (by decide +kernel) rfl, tg 9 (by decide +kernel) rfl, tg 882 (by decide +kernel) rfl, ⟨by decide, by decide, by decide +kernel⟩, by decide, by decide, ⟨_, _, rfl⟩⟩
theorem mk_X8_unsee : mokV MX8_unsee 0 8 := ⟨tg 885 (by decide +kernel) rfl, tg 886 (by decide +kernel) rfl, tg 9 (by decide +kernel) rfl, tg 887 (by decide +kernel) rfl, ⟨by decide, by decide, by decide +kernel⟩, by decide, by decide, ⟨_, _, rfl⟩⟩
theorem mk_X8_which : mokV MX8_which 0 8 := ⟨tg 889 (by decide +kernel) rfl, tg 890 (by decide +kernel) rfl, tg 9 (by decide +kernel) rfl, tg 891 (by decide +kernel) rfl, ⟨by decide, by decide, by decide +kernel⟩, by decide, by decide, ⟨_, _, rfl⟩⟩
theorem mk_X8_share : mokV MX8_share 2 8 := ⟨tg 893 (by decide +kernel) rfl, tg 894 (by decide +kernel) rfl, tg 9 (by decide +kernel) rfl, tg 895 (by decide +kernel) rfl, ⟨by decide, by decide, by decide +kernel⟩, by decide, by decide, ⟨_, _, rfl⟩⟩
theorem mk_X8_chance : mokV MX8_chance 3 8 := ⟨tg 906 (by decide +kernel) rfl, tg 907 (by decide +kernel) rfl, tg 9 (by decide +kernel) rfl, tg 908 (by decide +kernel) rfl, ⟨by decide, by decide, by decide +kernel⟩, by decide, by decide, ⟨_, _, rfl⟩⟩
theorem mk_X8_mean : mokV MX8_mean 2 8 := ⟨tg 915 (by decide +kernel) rfl, tg 916 (by decide +kernel) rfl, tg 9 (by decide +kernel) rfl, tg 917 (by decide +kernel) rfl, ⟨by decide, by decide, by decide +kernel⟩, by decide, by decide, ⟨_, _, rfl⟩⟩
theorem mk_X8_seed : mokV MX8_seed 1 8 := ⟨tg 919 (by decide +kernel) rfl, tg 920 (by decide +kernel) rfl, tg 9 (by decide +kernel) rfl, tg 921 (by decide +kernel) rfl, ⟨by decide, by decide, by decide +kernel⟩, by decide, by decide, ⟨_, _, rfl⟩⟩
theorem mk_X8_drawn : mokV MX8_drawn 1 8 := ⟨tg 923 (by decide +kernel) rfl, tg 924 (by decide +kernel) rfl, tg 9 (by decide +kernel) rfl, tg 925 (by decide +kernel) rfl, ⟨by decide, by decide, by decide +kernel⟩, by decide, by decide, ⟨_, _, rfl⟩⟩
theorem mk_X8_keep : mokV MX8_keep 1 8 := ⟨tg 930 (by decide +kernel) rfl, tg 931 (by decide +kernel) rfl, tg 9 (by decide +kernel) rfl, tg 932 (by decide +kernel) rfl, ⟨by decide, by decide, by decide +kernel⟩, by decide, by decide, ⟨_, _, rfl⟩⟩
theorem mk_X8_again : mokV MX8_again 1 8 := ⟨tg 934 (by decide +kernel) rfl, tg 935 (by decide +kernel) rfl, tg 9 (by decide +kernel) rfl, tg 936 (by decide +kernel) rfl, ⟨by decide, by decide, by decide +kernel⟩, by decide, by decide, ⟨_, _, rfl⟩⟩
theorem mk_J6_bitCount_0f7a4 : mokS MJ6_bitCount_0f7a4 1 := ⟨tg 548 (by decide +kernel) rfl, tg 13 (by decide +kernel) rfl, tg 549 (by decide +kernel) rfl, ⟨by decide, by decide, by decide +kernel⟩, by decide⟩
theorem mk_J9_abs_0f7a4 : mokS MJ9_abs_0f7a4 1 := ⟨tg 393 (by decide +kernel) rfl, tg 12 (by decide +kernel) rfl, tg 394 (by decide +kernel) rfl, ⟨by decide, by decide, by decide +kernel⟩, by decide⟩
theorem mk_J9_max_7cf53 : mokS MJ9_max_7cf53 2 := ⟨tg 382 (by decide +kernel) rfl, tg 12 (by decide +kernel) rfl, tg 383 (by decide +kernel) rfl, ⟨by decide, by decide, by decide +kernel⟩, by decide⟩
theorem mk_J7_fill_53178 : mokS MJ7_fill_53178 2 := ⟨tg 230 (by decide +kernel) rfl, tg 10 (by decide +kernel) rfl, tg 231 (by decide +kernel) rfl, ⟨by decide, by decide, by decide +kernel⟩, by decide⟩
end
section
section RS
variable {X : Cx} {r d : Nat} {M : Mth} {pc q : Nat} {loc : Lo} {stk : List AV} {w : Wd} {Q : Option AV → Wd → Prop}
theorem R_cV0i {M' : Mth} {a n i : Nat} {pa : List Nat}  {P : Int32 → Wd → Prop} (hd : decode M.2.1 pc = .ok (.invokevirtual i, 3)) (hl0 : ML M.2.2.2.2 i M'.1) (hm : mokV M' 0 a) (hc : (stk.map cat).sum ≤ 8) (hq : pc + 3 = q) (hC : Ct X r d M' [vR a n pa] w (qI P)) (kk : ∀ (x : Int32) (w' : Wd), P x w' → Wq X r (d + 1) M q loc (vI x :: stk) w' Q) : Wq X r (d + 1) M pc loc (vR a n pa :: stk) w Q :=
  R_callV (As := []) hd hl0 hm hc hq hC (fun rv w' h => by obtain ⟨x, rfl, h⟩ := h; exact kk x w' h)
theorem R_cV0v {M' : Mth} {a n i : Nat} {pa : List Nat}  {P : Wd → Prop} (hd : decode M.2.1 pc = .ok (.invokevirtual i, 3)) (hl0 : ML M.2.2.2.2 i M'.1) (hm : mokV M' 0 a) (hc : (stk.map cat).sum ≤ 8) (hq : pc + 3 = q) (hC : Ct X r d M' [vR a n pa] w (qV P)) (kk : ∀ (w' : Wd), P w' → Wq X r (d + 1) M q loc stk w' Q) : Wq X r (d + 1) M pc loc (vR a n pa :: stk) w Q :=
  R_callV (As := []) hd hl0 hm hc hq hC (fun rv w' h => by obtain ⟨rfl, h⟩ := h; exact kk w' h)
theorem R_cV1i {M' : Mth} {a n i : Nat} {pa : List Nat} {v1 : AV} {P : Int32 → Wd → Prop} (hd : decode M.2.1 pc = .ok (.invokevirtual i, 3)) (hl0 : ML M.2.2.2.2 i M'.1) (hm : mokV M' 1 a) (hc : (stk.map cat).sum ≤ 8) (hq : pc + 3 = q) (hC : Ct X r d M' [vR a n pa, v1] w (qI P)) (kk : ∀ (x : Int32) (w' : Wd), P x w' → Wq X r (d + 1) M q loc (vI x :: stk) w' Q) : Wq X r (d + 1) M pc loc (v1 :: vR a n pa :: stk) w Q :=
  R_callV (As := [v1]) hd hl0 hm hc hq hC (fun rv w' h => by obtain ⟨x, rfl, h⟩ := h; exact kk x w' h)
theorem R_cS1i {M' : Mth} {i : Nat} {v1 : AV} {P : Int32 → Wd → Prop} (hd : decode M.2.1 pc = .ok (.invokestatic i, 3)) (hl0 : ML M.2.2.2.2 i M'.1) (hm : mokS M' 1) (hc : (stk.map cat).sum ≤ 8) (hq : pc + 3 = q) (hC : Ct X r d M' [v1] w (qI P)) (kk : ∀ (x : Int32) (w' : Wd), P x w' → Wq X r (d + 1) M q loc (vI x :: stk) w' Q) : Wq X r (d + 1) M pc loc (v1 :: stk) w Q :=
  R_callS (As := [v1]) hd hl0 hm hc hq hC (fun rv w' h => by obtain ⟨x, rfl, h⟩ := h; exact kk x w' h)
theorem R_cS1l {M' : Mth} {i : Nat} {v1 : AV} {P : Int64 → Wd → Prop} (hd : decode M.2.1 pc = .ok (.invokestatic i, 3)) (hl0 : ML M.2.2.2.2 i M'.1) (hm : mokS M' 1) (hc : (stk.map cat).sum ≤ 8) (hq : pc + 3 = q) (hC : Ct X r d M' [v1] w (qL P)) (kk : ∀ (x : Int64) (w' : Wd), P x w' → Wq X r (d + 1) M q loc (vL x :: stk) w' Q) : Wq X r (d + 1) M pc loc (v1 :: stk) w Q :=
  R_callS (As := [v1]) hd hl0 hm hc hq hC (fun rv w' h => by obtain ⟨x, rfl, h⟩ := h; exact kk x w' h)
theorem R_cV1v {M' : Mth} {a n i : Nat} {pa : List Nat} {v1 : AV} {P : Wd → Prop} (hd : decode M.2.1 pc = .ok (.invokevirtual i, 3)) (hl0 : ML M.2.2.2.2 i M'.1) (hm : mokV M' 1 a) (hc : (stk.map cat).sum ≤ 8) (hq : pc + 3 = q) (hC : Ct X r d M' [vR a n pa, v1] w (qV P)) (kk : ∀ (w' : Wd), P w' → Wq X r (d + 1) M q loc stk w' Q) : Wq X r (d + 1) M pc loc (v1 :: vR a n pa :: stk) w Q :=
  R_callV (As := [v1]) hd hl0 hm hc hq hC (fun rv w' h => by obtain ⟨rfl, h⟩ := h; exact kk w' h)
theorem R_cS1v {M' : Mth} {i : Nat} {v1 : AV} {P : Wd → Prop} (hd : decode M.2.1 pc = .ok (.invokestatic i, 3)) (hl0 : ML M.2.2.2.2 i M'.1) (hm : mokS M' 1) (hc : (stk.map cat).sum ≤ 8) (hq : pc + 3 = q) (hC : Ct X r d M' [v1] w (qV P)) (kk : ∀ (w' : Wd), P w' → Wq X r (d + 1) M q loc stk w' Q) : Wq X r (d + 1) M pc loc (v1 :: stk) w Q :=
  R_callS (As := [v1]) hd hl0 hm hc hq hC (fun rv w' h => by obtain ⟨rfl, h⟩ := h; exact kk w' h)
theorem R_cV2i {M' : Mth} {a n i : Nat} {pa : List Nat} {v1 v2 : AV} {P : Int32 → Wd → Prop} (hd : decode M.2.1 pc = .ok (.invokevirtual i, 3)) (hl0 : ML M.2.2.2.2 i M'.1) (hm : mokV M' 2 a) (hc : (stk.map cat).sum ≤ 8) (hq : pc + 3 = q) (hC : Ct X r d M' [vR a n pa, v1, v2] w (qI P)) (kk : ∀ (x : Int32) (w' : Wd), P x w' → Wq X r (d + 1) M q loc (vI x :: stk) w' Q) : Wq X r (d + 1) M pc loc (v2 :: v1 :: vR a n pa :: stk) w Q :=
  R_callV (As := [v1, v2]) hd hl0 hm hc hq hC (fun rv w' h => by obtain ⟨x, rfl, h⟩ := h; exact kk x w' h)
theorem R_cS2i {M' : Mth} {i : Nat} {v1 v2 : AV} {P : Int32 → Wd → Prop} (hd : decode M.2.1 pc = .ok (.invokestatic i, 3)) (hl0 : ML M.2.2.2.2 i M'.1) (hm : mokS M' 2) (hc : (stk.map cat).sum ≤ 8) (hq : pc + 3 = q) (hC : Ct X r d M' [v1, v2] w (qI P)) (kk : ∀ (x : Int32) (w' : Wd), P x w' → Wq X r (d + 1) M q loc (vI x :: stk) w' Q) : Wq X r (d + 1) M pc loc (v2 :: v1 :: stk) w Q :=
  R_callS (As := [v1, v2]) hd hl0 hm hc hq hC (fun rv w' h => by obtain ⟨x, rfl, h⟩ := h; exact kk x w' h)
theorem R_cS2l {M' : Mth} {i : Nat} {v1 v2 : AV} {P : Int64 → Wd → Prop} (hd : decode M.2.1 pc = .ok (.invokestatic i, 3)) (hl0 : ML M.2.2.2.2 i M'.1) (hm : mokS M' 2) (hc : (stk.map cat).sum ≤ 8) (hq : pc + 3 = q) (hC : Ct X r d M' [v1, v2] w (qL P)) (kk : ∀ (x : Int64) (w' : Wd), P x w' → Wq X r (d + 1) M q loc (vL x :: stk) w' Q) : Wq X r (d + 1) M pc loc (v2 :: v1 :: stk) w Q :=
  R_callS (As := [v1, v2]) hd hl0 hm hc hq hC (fun rv w' h => by obtain ⟨x, rfl, h⟩ := h; exact kk x w' h)
theorem R_cV2v {M' : Mth} {a n i : Nat} {pa : List Nat} {v1 v2 : AV} {P : Wd → Prop} (hd : decode M.2.1 pc = .ok (.invokevirtual i, 3)) (hl0 : ML M.2.2.2.2 i M'.1) (hm : mokV M' 2 a) (hc : (stk.map cat).sum ≤ 8) (hq : pc + 3 = q) (hC : Ct X r d M' [vR a n pa, v1, v2] w (qV P)) (kk : ∀ (w' : Wd), P w' → Wq X r (d + 1) M q loc stk w' Q) : Wq X r (d + 1) M pc loc (v2 :: v1 :: vR a n pa :: stk) w Q :=
  R_callV (As := [v1, v2]) hd hl0 hm hc hq hC (fun rv w' h => by obtain ⟨rfl, h⟩ := h; exact kk w' h)
theorem R_cS2v {M' : Mth} {i : Nat} {v1 v2 : AV} {P : Wd → Prop} (hd : decode M.2.1 pc = .ok (.invokestatic i, 3)) (hl0 : ML M.2.2.2.2 i M'.1) (hm : mokS M' 2) (hc : (stk.map cat).sum ≤ 8) (hq : pc + 3 = q) (hC : Ct X r d M' [v1, v2] w (qV P)) (kk : ∀ (w' : Wd), P w' → Wq X r (d + 1) M q loc stk w' Q) : Wq X r (d + 1) M pc loc (v2 :: v1 :: stk) w Q :=
  R_callS (As := [v1, v2]) hd hl0 hm hc hq hC (fun rv w' h => by obtain ⟨rfl, h⟩ := h; exact kk w' h)
theorem R_cV3i {M' : Mth} {a n i : Nat} {pa : List Nat} {v1 v2 v3 : AV} {P : Int32 → Wd → Prop} (hd : decode M.2.1 pc = .ok (.invokevirtual i, 3)) (hl0 : ML M.2.2.2.2 i M'.1) (hm : mokV M' 3 a) (hc : (stk.map cat).sum ≤ 8) (hq : pc + 3 = q) (hC : Ct X r d M' [vR a n pa, v1, v2, v3] w (qI P)) (kk : ∀ (x : Int32) (w' : Wd), P x w' → Wq X r (d + 1) M q loc (vI x :: stk) w' Q) : Wq X r (d + 1) M pc loc (v3 :: v2 :: v1 :: vR a n pa :: stk) w Q :=
  R_callV (As := [v1, v2, v3]) hd hl0 hm hc hq hC (fun rv w' h => by obtain ⟨x, rfl, h⟩ := h; exact kk x w' h)
theorem R_cS3i {M' : Mth} {i : Nat} {v1 v2 v3 : AV} {P : Int32 → Wd → Prop} (hd : decode M.2.1 pc = .ok (.invokestatic i, 3)) (hl0 : ML M.2.2.2.2 i M'.1) (hm : mokS M' 3) (hc : (stk.map cat).sum ≤ 8) (hq : pc + 3 = q) (hC : Ct X r d M' [v1, v2, v3] w (qI P)) (kk : ∀ (x : Int32) (w' : Wd), P x w' → Wq X r (d + 1) M q loc (vI x :: stk) w' Q) : Wq X r (d + 1) M pc loc (v3 :: v2 :: v1 :: stk) w Q :=
  R_callS (As := [v1, v2, v3]) hd hl0 hm hc hq hC (fun rv w' h => by obtain ⟨x, rfl, h⟩ := h; exact kk x w' h)
theorem R_cS3l {M' : Mth} {i : Nat} {v1 v2 v3 : AV} {P : Int64 → Wd → Prop} (hd : decode M.2.1 pc = .ok (.invokestatic i, 3)) (hl0 : ML M.2.2.2.2 i M'.1) (hm : mokS M' 3) (hc : (stk.map cat).sum ≤ 8) (hq : pc + 3 = q) (hC : Ct X r d M' [v1, v2, v3] w (qL P)) (kk : ∀ (x : Int64) (w' : Wd), P x w' → Wq X r (d + 1) M q loc (vL x :: stk) w' Q) : Wq X r (d + 1) M pc loc (v3 :: v2 :: v1 :: stk) w Q :=
  R_callS (As := [v1, v2, v3]) hd hl0 hm hc hq hC (fun rv w' h => by obtain ⟨x, rfl, h⟩ := h; exact kk x w' h)
theorem R_cV3v {M' : Mth} {a n i : Nat} {pa : List Nat} {v1 v2 v3 : AV} {P : Wd → Prop} (hd : decode M.2.1 pc = .ok (.invokevirtual i, 3)) (hl0 : ML M.2.2.2.2 i M'.1) (hm : mokV M' 3 a) (hc : (stk.map cat).sum ≤ 8) (hq : pc + 3 = q) (hC : Ct X r d M' [vR a n pa, v1, v2, v3] w (qV P)) (kk : ∀ (w' : Wd), P w' → Wq X r (d + 1) M q loc stk w' Q) : Wq X r (d + 1) M pc loc (v3 :: v2 :: v1 :: vR a n pa :: stk) w Q :=
  R_callV (As := [v1, v2, v3]) hd hl0 hm hc hq hC (fun rv w' h => by obtain ⟨rfl, h⟩ := h; exact kk w' h)
theorem R_cS3v {M' : Mth} {i : Nat} {v1 v2 v3 : AV} {P : Wd → Prop} (hd : decode M.2.1 pc = .ok (.invokestatic i, 3)) (hl0 : ML M.2.2.2.2 i M'.1) (hm : mokS M' 3) (hc : (stk.map cat).sum ≤ 8) (hq : pc + 3 = q) (hC : Ct X r d M' [v1, v2, v3] w (qV P)) (kk : ∀ (w' : Wd), P w' → Wq X r (d + 1) M q loc stk w' Q) : Wq X r (d + 1) M pc loc (v3 :: v2 :: v1 :: stk) w Q :=
  R_callS (As := [v1, v2, v3]) hd hl0 hm hc hq hC (fun rv w' h => by obtain ⟨rfl, h⟩ := h; exact kk w' h)
theorem R_cV4i {M' : Mth} {a n i : Nat} {pa : List Nat} {v1 v2 v3 v4 : AV} {P : Int32 → Wd → Prop} (hd : decode M.2.1 pc = .ok (.invokevirtual i, 3)) (hl0 : ML M.2.2.2.2 i M'.1) (hm : mokV M' 4 a) (hc : (stk.map cat).sum ≤ 8) (hq : pc + 3 = q) (hC : Ct X r d M' [vR a n pa, v1, v2, v3, v4] w (qI P)) (kk : ∀ (x : Int32) (w' : Wd), P x w' → Wq X r (d + 1) M q loc (vI x :: stk) w' Q) : Wq X r (d + 1) M pc loc (v4 :: v3 :: v2 :: v1 :: vR a n pa :: stk) w Q :=
  R_callV (As := [v1, v2, v3, v4]) hd hl0 hm hc hq hC (fun rv w' h => by obtain ⟨x, rfl, h⟩ := h; exact kk x w' h)
theorem R_cS4i {M' : Mth} {i : Nat} {v1 v2 v3 v4 : AV} {P : Int32 → Wd → Prop} (hd : decode M.2.1 pc = .ok (.invokestatic i, 3)) (hl0 : ML M.2.2.2.2 i M'.1) (hm : mokS M' 4) (hc : (stk.map cat).sum ≤ 8) (hq : pc + 3 = q) (hC : Ct X r d M' [v1, v2, v3, v4] w (qI P)) (kk : ∀ (x : Int32) (w' : Wd), P x w' → Wq X r (d + 1) M q loc (vI x :: stk) w' Q) : Wq X r (d + 1) M pc loc (v4 :: v3 :: v2 :: v1 :: stk) w Q :=
  R_callS (As := [v1, v2, v3, v4]) hd hl0 hm hc hq hC (fun rv w' h => by obtain ⟨x, rfl, h⟩ := h; exact kk x w' h)
theorem R_cS4l {M' : Mth} {i : Nat} {v1 v2 v3 v4 : AV} {P : Int64 → Wd → Prop} (hd : decode M.2.1 pc = .ok (.invokestatic i, 3)) (hl0 : ML M.2.2.2.2 i M'.1) (hm : mokS M' 4) (hc : (stk.map cat).sum ≤ 8) (hq : pc + 3 = q) (hC : Ct X r d M' [v1, v2, v3, v4] w (qL P)) (kk : ∀ (x : Int64) (w' : Wd), P x w' → Wq X r (d + 1) M q loc (vL x :: stk) w' Q) : Wq X r (d + 1) M pc loc (v4 :: v3 :: v2 :: v1 :: stk) w Q :=
  R_callS (As := [v1, v2, v3, v4]) hd hl0 hm hc hq hC (fun rv w' h => by obtain ⟨x, rfl, h⟩ := h; exact kk x w' h)
theorem R_cV4v {M' : Mth} {a n i : Nat} {pa : List Nat} {v1 v2 v3 v4 : AV} {P : Wd → Prop} (hd : decode M.2.1 pc = .ok (.invokevirtual i, 3)) (hl0 : ML M.2.2.2.2 i M'.1) (hm : mokV M' 4 a) (hc : (stk.map cat).sum ≤ 8) (hq : pc + 3 = q) (hC : Ct X r d M' [vR a n pa, v1, v2, v3, v4] w (qV P)) (kk : ∀ (w' : Wd), P w' → Wq X r (d + 1) M q loc stk w' Q) : Wq X r (d + 1) M pc loc (v4 :: v3 :: v2 :: v1 :: vR a n pa :: stk) w Q :=
  R_callV (As := [v1, v2, v3, v4]) hd hl0 hm hc hq hC (fun rv w' h => by obtain ⟨rfl, h⟩ := h; exact kk w' h)
theorem R_cS4v {M' : Mth} {i : Nat} {v1 v2 v3 v4 : AV} {P : Wd → Prop} (hd : decode M.2.1 pc = .ok (.invokestatic i, 3)) (hl0 : ML M.2.2.2.2 i M'.1) (hm : mokS M' 4) (hc : (stk.map cat).sum ≤ 8) (hq : pc + 3 = q) (hC : Ct X r d M' [v1, v2, v3, v4] w (qV P)) (kk : ∀ (w' : Wd), P w' → Wq X r (d + 1) M q loc stk w' Q) : Wq X r (d + 1) M pc loc (v4 :: v3 :: v2 :: v1 :: stk) w Q :=
  R_callS (As := [v1, v2, v3, v4]) hd hl0 hm hc hq hC (fun rv w' h => by obtain ⟨rfl, h⟩ := h; exact kk w' h)
theorem R_cV5i {M' : Mth} {a n i : Nat} {pa : List Nat} {v1 v2 v3 v4 v5 : AV} {P : Int32 → Wd → Prop} (hd : decode M.2.1 pc = .ok (.invokevirtual i, 3)) (hl0 : ML M.2.2.2.2 i M'.1) (hm : mokV M' 5 a) (hc : (stk.map cat).sum ≤ 8) (hq : pc + 3 = q) (hC : Ct X r d M' [vR a n pa, v1, v2, v3, v4, v5] w (qI P)) (kk : ∀ (x : Int32) (w' : Wd), P x w' → Wq X r (d + 1) M q loc (vI x :: stk) w' Q) : Wq X r (d + 1) M pc loc (v5 :: v4 :: v3 :: v2 :: v1 :: vR a n pa :: stk) w Q :=
  R_callV (As := [v1, v2, v3, v4, v5]) hd hl0 hm hc hq hC (fun rv w' h => by obtain ⟨x, rfl, h⟩ := h; exact kk x w' h)
theorem R_cS5i {M' : Mth} {i : Nat} {v1 v2 v3 v4 v5 : AV} {P : Int32 → Wd → Prop} (hd : decode M.2.1 pc = .ok (.invokestatic i, 3)) (hl0 : ML M.2.2.2.2 i M'.1) (hm : mokS M' 5) (hc : (stk.map cat).sum ≤ 8) (hq : pc + 3 = q) (hC : Ct X r d M' [v1, v2, v3, v4, v5] w (qI P)) (kk : ∀ (x : Int32) (w' : Wd), P x w' → Wq X r (d + 1) M q loc (vI x :: stk) w' Q) : Wq X r (d + 1) M pc loc (v5 :: v4 :: v3 :: v2 :: v1 :: stk) w Q :=
  R_callS (As := [v1, v2, v3, v4, v5]) hd hl0 hm hc hq hC (fun rv w' h => by obtain ⟨x, rfl, h⟩ := h; exact kk x w' h)
theorem R_cS5l {M' : Mth} {i : Nat} {v1 v2 v3 v4 v5 : AV} {P : Int64 → Wd → Prop} (hd : decode M.2.1 pc = .ok (.invokestatic i, 3)) (hl0 : ML M.2.2.2.2 i M'.1) (hm : mokS M' 5) (hc : (stk.map cat).sum ≤ 8) (hq : pc + 3 = q) (hC : Ct X r d M' [v1, v2, v3, v4, v5] w (qL P)) (kk : ∀ (x : Int64) (w' : Wd), P x w' → Wq X r (d + 1) M q loc (vL x :: stk) w' Q) : Wq X r (d + 1) M pc loc (v5 :: v4 :: v3 :: v2 :: v1 :: stk) w Q :=
  R_callS (As := [v1, v2, v3, v4, v5]) hd hl0 hm hc hq hC (fun rv w' h => by obtain ⟨x, rfl, h⟩ := h; exact kk x w' h)
theorem R_cV5v {M' : Mth} {a n i : Nat} {pa : List Nat} {v1 v2 v3 v4 v5 : AV} {P : Wd → Prop} (hd : decode M.2.1 pc = .ok (.invokevirtual i, 3)) (hl0 : ML M.2.2.2.2 i M'.1) (hm : mokV M' 5 a) (hc : (stk.map cat).sum ≤ 8) (hq : pc + 3 = q) (hC : Ct X r d M' [vR a n pa, v1, v2, v3, v4, v5] w (qV P)) (kk : ∀ (w' : Wd), P w' → Wq X r (d + 1) M q loc stk w' Q) : Wq X r (d + 1) M pc loc (v5 :: v4 :: v3 :: v2 :: v1 :: vR a n pa :: stk) w Q :=
  R_callV (As := [v1, v2, v3, v4, v5]) hd hl0 hm hc hq hC (fun rv w' h => by obtain ⟨rfl, h⟩ := h; exact kk w' h)
theorem R_cS5v {M' : Mth} {i : Nat} {v1 v2 v3 v4 v5 : AV} {P : Wd → Prop} (hd : decode M.2.1 pc = .ok (.invokestatic i, 3)) (hl0 : ML M.2.2.2.2 i M'.1) (hm : mokS M' 5) (hc : (stk.map cat).sum ≤ 8) (hq : pc + 3 = q) (hC : Ct X r d M' [v1, v2, v3, v4, v5] w (qV P)) (kk : ∀ (w' : Wd), P w' → Wq X r (d + 1) M q loc stk w' Q) : Wq X r (d + 1) M pc loc (v5 :: v4 :: v3 :: v2 :: v1 :: stk) w Q :=
  R_callS (As := [v1, v2, v3, v4, v5]) hd hl0 hm hc hq hC (fun rv w' h => by obtain ⟨rfl, h⟩ := h; exact kk w' h)
/-! over natural numbers -/
theorem R_getI' {i a n k : Nat} {pa : List Nat} {f : Bool} {t : FieldType} {v : Int32} (hd : decode M.2.1 pc = .ok (.getfield i, 3)) (hf : FL M.2.2.2.2 i a k f t) (hk : (fk a k).1 = 100) (hv : w.1 pa k = v) (hq : pc + 3 = q) (kk : Wq X r d M q loc (vI v :: stk) w Q) : Wq X r d M pc loc (vR a n pa :: stk) w Q := R_getI hd hf hk hq (by rw [hv]; exact kk)
theorem R_iald' {n b : Nat} {i v : Int32} {pa : List Nat} (hd : decode M.2.1 pc = .ok (.iaload, 1)) (hi : i = nI b) (hb : b < n) (hn : n < 2 ^ 31) (hv : w.1 pa b = v) (hq : pc + 1 = q) (kk : Wq X r d M q loc (vI v :: stk) w Q) : Wq X r d M pc loc (vI i :: vR 9 n pa :: stk) w Q := R_iald hd hi hb hn hq (by rw [hv]; exact kk)
theorem R_zald' {n b : Nat} {i v : Int32} {pa : List Nat} (hd : decode M.2.1 pc = .ok (.baload, 1)) (hi : i = nI b) (hb : b < n) (hn : n < 2 ^ 31) (hv : w.1 pa b = v) (hq : pc + 1 = q) (kk : Wq X r d M q loc (vI v :: stk) w Q) : Wq X r d M pc loc (vI i :: vR 10 n pa :: stk) w Q := R_zald hd hi hb hn hq (by rw [hv]; exact kk)
theorem R_val {x y : Int32} (e : x = y) (k : Wq X r d M pc loc (vI y :: stk) w Q) : Wq X r d M pc loc (vI x :: stk) w Q := by rw [e]; exact k
theorem R_val2 {v : AV} {x y : Int32} (e : x = y) (k : Wq X r d M pc loc (v :: vI y :: stk) w Q) : Wq X r d M pc loc (v :: vI x :: stk) w Q := by rw [e]; exact k
theorem R_iaddN {a b : Nat} (hd : decode M.2.1 pc = .ok (.iadd, 1)) (hq : pc + 1 = q) (k : Wq X r d M q loc (vI (nI (a + b)) :: stk) w Q) : Wq X r d M pc loc (vI (nI b) :: vI (nI a) :: stk) w Q := R_iadd hd hq (by rw [nI_add]; exact k)
theorem R_isubN {a b : Nat} (h : b ≤ a) (hd : decode M.2.1 pc = .ok (.isub, 1)) (hq : pc + 1 = q) (k : Wq X r d M q loc (vI (nI (a - b)) :: stk) w Q) : Wq X r d M pc loc (vI (nI b) :: vI (nI a) :: stk) w Q := R_isub hd hq (by rw [pk_sub h]; exact k)
theorem R_imulN {a b : Nat} (hd : decode M.2.1 pc = .ok (.imul, 1)) (hq : pc + 1 = q) (k : Wq X r d M q loc (vI (nI (a * b)) :: stk) w Q) : Wq X r d M pc loc (vI (nI b) :: vI (nI a) :: stk) w Q := R_imul hd hq (by rw [pk_mul]; exact k)
theorem R_idivN {a b : Nat} (ha : a < 2 ^ 31) (h0 : 0 < b) (hb : b < 2 ^ 31) (hd : decode M.2.1 pc = .ok (.idiv, 1)) (hq : pc + 1 = q) (k : Wq X r d M q loc (vI (nI (a / b)) :: stk) w Q) : Wq X r d M pc loc (vI (nI b) :: vI (nI a) :: stk) w Q := R_idiv hd (nI_ne0 h0 hb) hq (by rw [pk_div ha h0 hb]; exact k)
theorem R_iremN {a b : Nat} (ha : a < 2 ^ 31) (h0 : 0 < b) (hb : b < 2 ^ 31) (hd : decode M.2.1 pc = .ok (.irem, 1)) (hq : pc + 1 = q) (k : Wq X r d M q loc (vI (nI (a % b)) :: stk) w Q) : Wq X r d M pc loc (vI (nI b) :: vI (nI a) :: stk) w Q := R_irem hd (nI_ne0 h0 hb) hq (by rw [pk_rem ha h0 hb]; exact k)
theorem R_iincN {i a : Nat} {loc' : Lo} (hd : decode M.2.1 pc = .ok (.iinc i 1, 3)) (hg : lgt loc i = some (vI (nI a))) (hn : i < M.2.2.1) (hl' : st1 loc i (vI (nI (a + 1))) = loc') (hq : pc + 3 = q) (k : Wq X r d M q loc' stk w Q) : Wq X r d M pc loc stk w Q := R_iinc hd hg (nI_1 a) hn hl' hq k
theorem R_icmp_eqN {a b : Nat} (ha : a < 2 ^ 31) (hb : b < 2 ^ 31) {off : Int} {tgt : Nat} (hd : decode M.2.1 pc = .ok (.if_icmp .eq off, 3)) (ht : (pc : Int) + off = (tgt : Int)) (hq : pc + 3 = q) (kt : a = b → Wq X r d M tgt loc stk w Q) (kf : a ≠ b → Wq X r d M q loc stk w Q) : Wq X r d M pc loc (vI (nI b) :: vI (nI a) :: stk) w Q := R_icmp_eq hd ht hq (fun g => kt ((nI_eq ha hb).mp g)) (fun g => kf (fun h => g ((nI_eq ha hb).mpr h)))
theorem R_icmp_neN {a b : Nat} (ha : a < 2 ^ 31) (hb : b < 2 ^ 31) {off : Int} {tgt : Nat} (hd : decode M.2.1 pc = .ok (.if_icmp .ne off, 3)) (ht : (pc : Int) + off = (tgt : Int)) (hq : pc + 3 = q) (kt : a ≠ b → Wq X r d M tgt loc stk w Q) (kf : a = b → Wq X r d M q loc stk w Q) : Wq X r d M pc loc (vI (nI b) :: vI (nI a) :: stk) w Q := R_icmp_ne hd ht hq (fun g => kt (fun h => g ((nI_eq ha hb).mpr h))) (fun g => kf ((nI_eq ha hb).mp g))
theorem R_icmp_ltN {a b : Nat} (ha : a < 2 ^ 31) (hb : b < 2 ^ 31) {off : Int} {tgt : Nat} (hd : decode M.2.1 pc = .ok (.if_icmp .lt off, 3)) (ht : (pc : Int) + off = (tgt : Int)) (hq : pc + 3 = q) (kt : a < b → Wq X r d M tgt loc stk w Q) (kf : b ≤ a → Wq X r d M q loc stk w Q) : Wq X r d M pc loc (vI (nI b) :: vI (nI a) :: stk) w Q := R_icmp_lt hd ht hq (fun g => kt ((nI_ltI ha hb).mp g)) (fun g => kf (Nat.not_lt.mp fun h => g ((nI_ltI ha hb).mpr h)))
theorem R_icmp_geN {a b : Nat} (ha : a < 2 ^ 31) (hb : b < 2 ^ 31) {off : Int} {tgt : Nat} (hd : decode M.2.1 pc = .ok (.if_icmp .ge off, 3)) (ht : (pc : Int) + off = (tgt : Int)) (hq : pc + 3 = q) (kt : b ≤ a → Wq X r d M tgt loc stk w Q) (kf : a < b → Wq X r d M q loc stk w Q) : Wq X r d M pc loc (vI (nI b) :: vI (nI a) :: stk) w Q := R_icmp_ge hd ht hq (fun g => kt ((nI_leI hb ha).mp g)) (fun g => kf (Nat.not_le.mp fun h => g ((nI_leI hb ha).mpr h)))
theorem R_icmp_gtN {a b : Nat} (ha : a < 2 ^ 31) (hb : b < 2 ^ 31) {off : Int} {tgt : Nat} (hd : decode M.2.1 pc = .ok (.if_icmp .gt off, 3)) (ht : (pc : Int) + off = (tgt : Int)) (hq : pc + 3 = q) (kt : b < a → Wq X r d M tgt loc stk w Q) (kf : a ≤ b → Wq X r d M q loc stk w Q) : Wq X r d M pc loc (vI (nI b) :: vI (nI a) :: stk) w Q := R_icmp_gt hd ht hq (fun g => kt ((nI_ltI hb ha).mp g)) (fun g => kf (Nat.not_lt.mp fun h => g ((nI_ltI hb ha).mpr h)))
theorem R_icmp_leN {a b : Nat} (ha : a < 2 ^ 31) (hb : b < 2 ^ 31) {off : Int} {tgt : Nat} (hd : decode M.2.1 pc = .ok (.if_icmp .le off, 3)) (ht : (pc : Int) + off = (tgt : Int)) (hq : pc + 3 = q) (kt : a ≤ b → Wq X r d M tgt loc stk w Q) (kf : b < a → Wq X r d M q loc stk w Q) : Wq X r d M pc loc (vI (nI b) :: vI (nI a) :: stk) w Q := R_icmp_le hd ht hq (fun g => kt ((nI_leI ha hb).mp g)) (fun g => kf (Nat.not_le.mp fun h => g ((nI_leI ha hb).mpr h)))
theorem R_if_eqN {a : Nat} (ha : a < 2 ^ 31) {off : Int} {tgt : Nat} (hd : decode M.2.1 pc = .ok (.ifCond .eq off, 3)) (ht : (pc : Int) + off = (tgt : Int)) (hq : pc + 3 = q) (kt : a = 0 → Wq X r d M tgt loc stk w Q) (kf : a ≠ 0 → Wq X r d M q loc stk w Q) : Wq X r d M pc loc (vI (nI a) :: stk) w Q := R_if_eq hd ht hq (fun g => kt ((nI_eq ha (by decide)).mp g)) (fun g => kf (fun h => g ((nI_eq ha (by decide)).mpr h)))
theorem R_if_neN {a : Nat} (ha : a < 2 ^ 31) {off : Int} {tgt : Nat} (hd : decode M.2.1 pc = .ok (.ifCond .ne off, 3)) (ht : (pc : Int) + off = (tgt : Int)) (hq : pc + 3 = q) (kt : a ≠ 0 → Wq X r d M tgt loc stk w Q) (kf : a = 0 → Wq X r d M q loc stk w Q) : Wq X r d M pc loc (vI (nI a) :: stk) w Q := R_if_ne hd ht hq (fun g => kt (fun h => g ((nI_eq ha (by decide)).mpr h))) (fun g => kf ((nI_eq ha (by decide)).mp g))
/-- an answer that is true or false -/
def bI (c : Prop) [Decidable c] : Int32 := if c then 1 else 0
theorem bI_t {c : Prop} [Decidable c] (h : c) : bI c = 1 := if_pos h
theorem bI_f {c : Prop} [Decidable c] (h : ¬ c) : bI c = 0 := if_neg h
theorem bI_b (c : Prop) [Decidable c] : bI c &&& 1 = bI c := by
  unfold bI
  split <;> decide
theorem bI_0 (c : Prop) [Decidable c] : bI c = 0 ↔ ¬ c := by
  unfold bI
  split
  · simp [*]
  · simp [*]
theorem R_if_eqB {c : Prop} [Decidable c] {off : Int} {tgt : Nat} (hd : decode M.2.1 pc = .ok (.ifCond .eq off, 3)) (ht : (pc : Int) + off = (tgt : Int)) (hq : pc + 3 = q) (kt : ¬ c → Wq X r d M tgt loc stk w Q) (kf : c → Wq X r d M q loc stk w Q) : Wq X r d M pc loc (vI (bI c) :: stk) w Q := R_if_eq hd ht hq (fun g => kt ((bI_0 c).mp g)) (fun g => kf (Classical.byContradiction fun h => g ((bI_0 c).mpr h)))
theorem R_if_neB {c : Prop} [Decidable c] {off : Int} {tgt : Nat} (hd : decode M.2.1 pc = .ok (.ifCond .ne off, 3)) (ht : (pc : Int) + off = (tgt : Int)) (hq : pc + 3 = q) (kt : c → Wq X r d M tgt loc stk w Q) (kf : ¬ c → Wq X r d M q loc stk w Q) : Wq X r d M pc loc (vI (bI c) :: stk) w Q := R_if_ne hd ht hq (fun g => kt (Classical.byContradiction fun h => g ((bI_0 c).mpr h))) (fun g => kf ((bI_0 c).mp g))
theorem uI_same (w : Wd) (p : List Nat) (k : Nat) (v : Int32) : (uI w p k v).1 p k = v := by simp [uI, uA, upd]
theorem uI_ne {w : Wd} {p : List Nat} {k j : Nat} {v : Int32} (h : j ≠ k) : (uI w p k v).1 p j = w.1 p j := by simp [uI, uA, upd, h]
theorem uI_nep {w : Wd} {p q : List Nat} {k j : Nat} {v : Int32} (h : q ≠ p) : (uI w p k v).1 q j = w.1 q j := by simp [uI, uA, h]
theorem uI_2 (w : Wd) (p : List Nat) (k : Nat) (v : Int32) : (uI w p k v).2 = w.2 := rfl
theorem uA_2 (w : Wd) (p : List Nat) (f : Nat → Int32) : (uA w p f).2 = w.2 := rfl
theorem uL_1 (w : Wd) (p : List Nat) (v : Int64) : (uL w p v).1 = w.1 := rfl
theorem uL_same (w : Wd) (p : List Nat) (v : Int64) : (uL w p v).2 p = v := by simp [uL]
end RS
end
section
theorem dX0_init_0 : decode cX0_init 0 = .ok (.aload_n 0, 1) := by decide +kernel
theorem dX0_init_1 : decode cX0_init 1 = .ok (.invokespecial 3, 3) := by decide +kernel
theorem dX0_init_4 : decode cX0_init 4 = .ok (.aload_n 0, 1) := by decide +kernel
theorem dX0_init_5 : decode cX0_init 5 = .ok (.bipush 14, 2) := by decide +kernel
theorem dX0_init_7 : decode cX0_init 7 = .ok (.anewarray 9, 3) := by decide +kernel
theorem dX0_init_10 : decode cX0_init 10 = .ok (.putfield 11, 3) := by decide +kernel
theorem dX0_init_13 : decode cX0_init 13 = .ok (.iconst 0, 1) := by decide +kernel
theorem dX0_init_14 : decode cX0_init 14 = .ok (.istore_n 1, 1) := by decide +kernel
theorem dX0_init_15 : decode cX0_init 15 = .ok (.iload_n 1, 1) := by decide +kernel
theorem dX0_init_16 : decode cX0_init 16 = .ok (.bipush 14, 2) := by decide +kernel
theorem dX0_init_18 : decode cX0_init 18 = .ok (.if_icmp .ge 22, 3) := by decide +kernel
theorem dX0_init_21 : decode cX0_init 21 = .ok (.aload_n 0, 1) := by decide +kernel
theorem dX0_init_22 : decode cX0_init 22 = .ok (.getfield 11, 3) := by decide +kernel
theorem dX0_init_25 : decode cX0_init 25 = .ok (.iload_n 1, 1) := by decide +kernel
theorem dX0_init_26 : decode cX0_init 26 = .ok (.new 9, 3) := by decide +kernel
theorem dX0_init_29 : decode cX0_init 29 = .ok (.dup, 1) := by decide +kernel
theorem dX0_init_30 : decode cX0_init 30 = .ok (.invokespecial 17, 3) := by decide +kernel
theorem dX0_init_33 : decode cX0_init 33 = .ok (.aastore, 1) := by decide +kernel
theorem dX0_init_34 : decode cX0_init 34 = .ok (.iinc 1 1, 3) := by decide +kernel
theorem dX0_init_37 : decode cX0_init 37 = .ok (.goto (-22), 3) := by decide +kernel
theorem dX0_init_40 : decode cX0_init 40 = .ok (.return_, 1) := by decide +kernel
theorem dX0_remember_0 : decode cX0_remember 0 = .ok (.aload_n 0, 1) := by decide +kernel
theorem dX0_remember_1 : decode cX0_remember 1 = .ok (.getfield 18, 3) := by decide +kernel
theorem dX0_remember_4 : decode cX0_remember 4 = .ok (.bipush 14, 2) := by decide +kernel
theorem dX0_remember_6 : decode cX0_remember 6 = .ok (.if_icmp .ne 26, 3) := by decide +kernel
theorem dX0_remember_9 : decode cX0_remember 9 = .ok (.aload_n 0, 1) := by decide +kernel
theorem dX0_remember_10 : decode cX0_remember 10 = .ok (.aload_n 0, 1) := by decide +kernel
theorem dX0_remember_11 : decode cX0_remember 11 = .ok (.getfield 22, 3) := by decide +kernel
theorem dX0_remember_14 : decode cX0_remember 14 = .ok (.iconst 1, 1) := by decide +kernel
theorem dX0_remember_15 : decode cX0_remember 15 = .ok (.iadd, 1) := by decide +kernel
theorem dX0_remember_16 : decode cX0_remember 16 = .ok (.bipush 14, 2) := by decide +kernel
theorem dX0_remember_18 : decode cX0_remember 18 = .ok (.irem, 1) := by decide +kernel
theorem dX0_remember_19 : decode cX0_remember 19 = .ok (.putfield 22, 3) := by decide +kernel
theorem dX0_remember_22 : decode cX0_remember 22 = .ok (.aload_n 0, 1) := by decide +kernel
theorem dX0_remember_23 : decode cX0_remember 23 = .ok (.dup, 1) := by decide +kernel
theorem dX0_remember_24 : decode cX0_remember 24 = .ok (.getfield 18, 3) := by decide +kernel
theorem dX0_remember_27 : decode cX0_remember 27 = .ok (.iconst 1, 1) := by decide +kernel
theorem dX0_remember_28 : decode cX0_remember 28 = .ok (.isub, 1) := by decide +kernel
theorem dX0_remember_29 : decode cX0_remember 29 = .ok (.putfield 18, 3) := by decide +kernel
theorem dX0_remember_32 : decode cX0_remember 32 = .ok (.aload_n 0, 1) := by decide +kernel
theorem dX0_remember_33 : decode cX0_remember 33 = .ok (.getfield 11, 3) := by decide +kernel
theorem dX0_remember_36 : decode cX0_remember 36 = .ok (.aload_n 0, 1) := by decide +kernel
theorem dX0_remember_37 : decode cX0_remember 37 = .ok (.getfield 22, 3) := by decide +kernel
theorem dX0_remember_40 : decode cX0_remember 40 = .ok (.aload_n 0, 1) := by decide +kernel
theorem dX0_remember_41 : decode cX0_remember 41 = .ok (.getfield 18, 3) := by decide +kernel
theorem dX0_remember_44 : decode cX0_remember 44 = .ok (.iadd, 1) := by decide +kernel
theorem dX0_remember_45 : decode cX0_remember 45 = .ok (.bipush 14, 2) := by decide +kernel
theorem dX0_remember_47 : decode cX0_remember 47 = .ok (.irem, 1) := by decide +kernel
theorem dX0_remember_48 : decode cX0_remember 48 = .ok (.aaload, 1) := by decide +kernel
theorem dX0_remember_49 : decode cX0_remember 49 = .ok (.aload_n 1, 1) := by decide +kernel
theorem dX0_remember_50 : decode cX0_remember 50 = .ok (.invokevirtual 25, 3) := by decide +kernel
theorem dX0_remember_53 : decode cX0_remember 53 = .ok (.aload_n 0, 1) := by decide +kernel
theorem dX0_remember_54 : decode cX0_remember 54 = .ok (.dup, 1) := by decide +kernel
theorem dX0_remember_55 : decode cX0_remember 55 = .ok (.getfield 18, 3) := by decide +kernel
theorem dX0_remember_58 : decode cX0_remember 58 = .ok (.iconst 1, 1) := by decide +kernel
theorem dX0_remember_59 : decode cX0_remember 59 = .ok (.iadd, 1) := by decide +kernel
theorem dX0_remember_60 : decode cX0_remember 60 = .ok (.putfield 18, 3) := by decide +kernel
theorem dX0_remember_63 : decode cX0_remember 63 = .ok (.return_, 1) := by decide +kernel
theorem dX0_takeBackInto_0 : decode cX0_takeBackInto 0 = .ok (.aload_n 0, 1) := by decide +kernel
theorem dX0_takeBackInto_1 : decode cX0_takeBackInto 1 = .ok (.getfield 18, 3) := by decide +kernel
theorem dX0_takeBackInto_4 : decode cX0_takeBackInto 4 = .ok (.ifCond .ne 5, 3) := by decide +kernel
theorem dX0_takeBackInto_7 : decode cX0_takeBackInto 7 = .ok (.iconst 0, 1) := by decide +kernel
theorem dX0_takeBackInto_8 : decode cX0_takeBackInto 8 = .ok (.ireturn, 1) := by decide +kernel
theorem dX0_takeBackInto_9 : decode cX0_takeBackInto 9 = .ok (.aload_n 0, 1) := by decide +kernel
theorem dX0_takeBackInto_10 : decode cX0_takeBackInto 10 = .ok (.dup, 1) := by decide +kernel
theorem dX0_takeBackInto_11 : decode cX0_takeBackInto 11 = .ok (.getfield 18, 3) := by decide +kernel
theorem dX0_takeBackInto_14 : decode cX0_takeBackInto 14 = .ok (.iconst 1, 1) := by decide +kernel
theorem dX0_takeBackInto_15 : decode cX0_takeBackInto 15 = .ok (.isub, 1) := by decide +kernel
theorem dX0_takeBackInto_16 : decode cX0_takeBackInto 16 = .ok (.putfield 18, 3) := by decide +kernel
theorem dX0_takeBackInto_19 : decode cX0_takeBackInto 19 = .ok (.aload_n 1, 1) := by decide +kernel
theorem dX0_takeBackInto_20 : decode cX0_takeBackInto 20 = .ok (.aload_n 0, 1) := by decide +kernel
theorem dX0_takeBackInto_21 : decode cX0_takeBackInto 21 = .ok (.getfield 11, 3) := by decide +kernel
theorem dX0_takeBackInto_24 : decode cX0_takeBackInto 24 = .ok (.aload_n 0, 1) := by decide +kernel
theorem dX0_takeBackInto_25 : decode cX0_takeBackInto 25 = .ok (.getfield 22, 3) := by decide +kernel
theorem dX0_takeBackInto_28 : decode cX0_takeBackInto 28 = .ok (.aload_n 0, 1) := by decide +kernel
theorem dX0_takeBackInto_29 : decode cX0_takeBackInto 29 = .ok (.getfield 18, 3) := by decide +kernel
theorem dX0_takeBackInto_32 : decode cX0_takeBackInto 32 = .ok (.iadd, 1) := by decide +kernel
theorem dX0_takeBackInto_33 : decode cX0_takeBackInto 33 = .ok (.bipush 14, 2) := by decide +kernel
theorem dX0_takeBackInto_35 : decode cX0_takeBackInto 35 = .ok (.irem, 1) := by decide +kernel
theorem dX0_takeBackInto_36 : decode cX0_takeBackInto 36 = .ok (.aaload, 1) := by decide +kernel
theorem dX0_takeBackInto_37 : decode cX0_takeBackInto 37 = .ok (.invokevirtual 25, 3) := by decide +kernel
theorem dX0_takeBackInto_40 : decode cX0_takeBackInto 40 = .ok (.iconst 1, 1) := by decide +kernel
theorem dX0_takeBackInto_41 : decode cX0_takeBackInto 41 = .ok (.ireturn, 1) := by decide +kernel
theorem dX0_forgetAll_0 : decode cX0_forgetAll 0 = .ok (.aload_n 0, 1) := by decide +kernel
theorem dX0_forgetAll_1 : decode cX0_forgetAll 1 = .ok (.iconst 0, 1) := by decide +kernel
theorem dX0_forgetAll_2 : decode cX0_forgetAll 2 = .ok (.putfield 18, 3) := by decide +kernel
theorem dX0_forgetAll_5 : decode cX0_forgetAll 5 = .ok (.return_, 1) := by decide +kernel
theorem dX1_init_0 : decode cX1_init 0 = .ok (.aload_n 0, 1) := by decide +kernel
theorem dX1_init_1 : decode cX1_init 1 = .ok (.invokespecial 3, 3) := by decide +kernel
theorem dX1_init_4 : decode cX1_init 4 = .ok (.aload_n 0, 1) := by decide +kernel
theorem dX1_init_5 : decode cX1_init 5 = .ok (.bipush 12, 2) := by decide +kernel
theorem dX1_init_7 : decode cX1_init 7 = .ok (.newarray .int, 2) := by decide +kernel
theorem dX1_init_9 : decode cX1_init 9 = .ok (.putfield 9, 3) := by decide +kernel
theorem dX1_init_12 : decode cX1_init 12 = .ok (.aload_n 0, 1) := by decide +kernel
theorem dX1_init_13 : decode cX1_init 13 = .ok (.bipush 12, 2) := by decide +kernel
theorem dX1_init_15 : decode cX1_init 15 = .ok (.newarray .int, 2) := by decide +kernel
theorem dX1_init_17 : decode cX1_init 17 = .ok (.putfield 15, 3) := by decide +kernel
theorem dX1_init_20 : decode cX1_init 20 = .ok (.aload_n 0, 1) := by decide +kernel
theorem dX1_init_21 : decode cX1_init 21 = .ok (.bipush 12, 2) := by decide +kernel
theorem dX1_init_23 : decode cX1_init 23 = .ok (.newarray .int, 2) := by decide +kernel
theorem dX1_init_25 : decode cX1_init 25 = .ok (.putfield 18, 3) := by decide +kernel
theorem dX1_init_28 : decode cX1_init 28 = .ok (.aload_n 0, 1) := by decide +kernel
theorem dX1_init_29 : decode cX1_init 29 = .ok (.iconst 2, 1) := by decide +kernel
theorem dX1_init_30 : decode cX1_init 30 = .ok (.newarray .int, 2) := by decide +kernel
theorem dX1_init_32 : decode cX1_init 32 = .ok (.putfield 21, 3) := by decide +kernel
theorem dX1_init_35 : decode cX1_init 35 = .ok (.return_, 1) := by decide +kernel
theorem dX1_take_0 : decode cX1_take 0 = .ok (.aload_n 0, 1) := by decide +kernel
theorem dX1_take_1 : decode cX1_take 1 = .ok (.getfield 9, 3) := by decide +kernel
theorem dX1_take_4 : decode cX1_take 4 = .ok (.iconst 0, 1) := by decide +kernel
theorem dX1_take_5 : decode cX1_take 5 = .ok (.invokestatic 24, 3) := by decide +kernel
theorem dX1_take_8 : decode cX1_take 8 = .ok (.aload_n 0, 1) := by decide +kernel
theorem dX1_take_9 : decode cX1_take 9 = .ok (.getfield 15, 3) := by decide +kernel
theorem dX1_take_12 : decode cX1_take 12 = .ok (.iconst 0, 1) := by decide +kernel
theorem dX1_take_13 : decode cX1_take 13 = .ok (.invokestatic 24, 3) := by decide +kernel
theorem dX1_take_16 : decode cX1_take 16 = .ok (.iconst 0, 1) := by decide +kernel
theorem dX1_take_17 : decode cX1_take 17 = .ok (.istore_n 2, 1) := by decide +kernel
theorem dX1_take_18 : decode cX1_take 18 = .ok (.iload_n 2, 1) := by decide +kernel
theorem dX1_take_19 : decode cX1_take 19 = .ok (.aload_n 1, 1) := by decide +kernel
theorem dX1_take_20 : decode cX1_take 20 = .ok (.getfield 30, 3) := by decide +kernel
theorem dX1_take_23 : decode cX1_take 23 = .ok (.if_icmp .ge 34, 3) := by decide +kernel
theorem dX1_take_26 : decode cX1_take 26 = .ok (.aload_n 0, 1) := by decide +kernel
theorem dX1_take_27 : decode cX1_take 27 = .ok (.aload_n 1, 1) := by decide +kernel
theorem dX1_take_28 : decode cX1_take 28 = .ok (.getfield 36, 3) := by decide +kernel
theorem dX1_take_31 : decode cX1_take 31 = .ok (.iload_n 2, 1) := by decide +kernel
theorem dX1_take_32 : decode cX1_take 32 = .ok (.iaload, 1) := by decide +kernel
theorem dX1_take_33 : decode cX1_take 33 = .ok (.iload_n 2, 1) := by decide +kernel
theorem dX1_take_34 : decode cX1_take 34 = .ok (.invokevirtual 39, 3) := by decide +kernel
theorem dX1_take_37 : decode cX1_take 37 = .ok (.aload_n 0, 1) := by decide +kernel
theorem dX1_take_38 : decode cX1_take 38 = .ok (.bipush 6, 2) := by decide +kernel
theorem dX1_take_40 : decode cX1_take 40 = .ok (.aload_n 1, 1) := by decide +kernel
theorem dX1_take_41 : decode cX1_take 41 = .ok (.getfield 43, 3) := by decide +kernel
theorem dX1_take_44 : decode cX1_take 44 = .ok (.iload_n 2, 1) := by decide +kernel
theorem dX1_take_45 : decode cX1_take 45 = .ok (.iaload, 1) := by decide +kernel
theorem dX1_take_46 : decode cX1_take 46 = .ok (.iadd, 1) := by decide +kernel
theorem dX1_take_47 : decode cX1_take 47 = .ok (.iload_n 2, 1) := by decide +kernel
theorem dX1_take_48 : decode cX1_take 48 = .ok (.invokevirtual 39, 3) := by decide +kernel
theorem dX1_take_51 : decode cX1_take 51 = .ok (.iinc 2 1, 3) := by decide +kernel
theorem dX1_take_54 : decode cX1_take 54 = .ok (.goto (-36), 3) := by decide +kernel
theorem dX1_take_57 : decode cX1_take 57 = .ok (.iconst 0, 1) := by decide +kernel
theorem dX1_take_58 : decode cX1_take 58 = .ok (.istore_n 2, 1) := by decide +kernel
theorem dX1_take_59 : decode cX1_take 59 = .ok (.iload_n 2, 1) := by decide +kernel
theorem dX1_take_60 : decode cX1_take 60 = .ok (.bipush 12, 2) := by decide +kernel
theorem dX1_take_62 : decode cX1_take 62 = .ok (.if_icmp .ge 30, 3) := by decide +kernel
theorem dX1_take_65 : decode cX1_take 65 = .ok (.aload_n 0, 1) := by decide +kernel
theorem dX1_take_66 : decode cX1_take 66 = .ok (.getfield 18, 3) := by decide +kernel
theorem dX1_take_69 : decode cX1_take 69 = .ok (.iload_n 2, 1) := by decide +kernel
theorem dX1_take_70 : decode cX1_take 70 = .ok (.aload_n 0, 1) := by decide +kernel
theorem dX1_take_71 : decode cX1_take 71 = .ok (.getfield 9, 3) := by decide +kernel
theorem dX1_take_74 : decode cX1_take 74 = .ok (.iload_n 2, 1) := by decide +kernel
theorem dX1_take_75 : decode cX1_take 75 = .ok (.iaload, 1) := by decide +kernel
theorem dX1_take_76 : decode cX1_take 76 = .ok (.aload_n 0, 1) := by decide +kernel
theorem dX1_take_77 : decode cX1_take 77 = .ok (.getfield 15, 3) := by decide +kernel
theorem dX1_take_80 : decode cX1_take 80 = .ok (.iload_n 2, 1) := by decide +kernel
theorem dX1_take_81 : decode cX1_take 81 = .ok (.iaload, 1) := by decide +kernel
theorem dX1_take_82 : decode cX1_take 82 = .ok (.invokestatic 46, 3) := by decide +kernel
theorem dX1_take_85 : decode cX1_take 85 = .ok (.iastore, 1) := by decide +kernel
theorem dX1_take_86 : decode cX1_take 86 = .ok (.iinc 2 1, 3) := by decide +kernel
theorem dX1_take_89 : decode cX1_take 89 = .ok (.goto (-30), 3) := by decide +kernel
theorem dX1_take_92 : decode cX1_take 92 = .ok (.aload_n 0, 1) := by decide +kernel
theorem dX1_take_93 : decode cX1_take 93 = .ok (.aload_n 1, 1) := by decide +kernel
theorem dX1_take_94 : decode cX1_take 94 = .ok (.invokevirtual 50, 3) := by decide +kernel
theorem dX1_take_97 : decode cX1_take 97 = .ok (.return_, 1) := by decide +kernel
theorem dX1_count_0 : decode cX1_count 0 = .ok (.aload_n 0, 1) := by decide +kernel
theorem dX1_count_1 : decode cX1_count 1 = .ok (.getfield 9, 3) := by decide +kernel
theorem dX1_count_4 : decode cX1_count 4 = .ok (.iload_n 1, 1) := by decide +kernel
theorem dX1_count_5 : decode cX1_count 5 = .ok (.dup2, 1) := by decide +kernel
theorem dX1_count_6 : decode cX1_count 6 = .ok (.iaload, 1) := by decide +kernel
theorem dX1_count_7 : decode cX1_count 7 = .ok (.iconst 1, 1) := by decide +kernel
theorem dX1_count_8 : decode cX1_count 8 = .ok (.iadd, 1) := by decide +kernel
theorem dX1_count_9 : decode cX1_count 9 = .ok (.iastore, 1) := by decide +kernel
theorem dX1_count_10 : decode cX1_count 10 = .ok (.aload_n 0, 1) := by decide +kernel
theorem dX1_count_11 : decode cX1_count 11 = .ok (.getfield 15, 3) := by decide +kernel
theorem dX1_count_14 : decode cX1_count 14 = .ok (.iload_n 1, 1) := by decide +kernel
theorem dX1_count_15 : decode cX1_count 15 = .ok (.dup2, 1) := by decide +kernel
theorem dX1_count_16 : decode cX1_count 16 = .ok (.iaload, 1) := by decide +kernel
theorem dX1_count_17 : decode cX1_count 17 = .ok (.iload_n 2, 1) := by decide +kernel
theorem dX1_count_18 : decode cX1_count 18 = .ok (.iadd, 1) := by decide +kernel
theorem dX1_count_19 : decode cX1_count 19 = .ok (.iastore, 1) := by decide +kernel
theorem dX1_count_20 : decode cX1_count 20 = .ok (.return_, 1) := by decide +kernel
theorem dX1_nearest_0 : decode cX1_nearest 0 = .ok (.iload_n 0, 1) := by decide +kernel
theorem dX1_nearest_1 : decode cX1_nearest 1 = .ok (.ifCond .ne 8, 3) := by decide +kernel
theorem dX1_nearest_4 : decode cX1_nearest 4 = .ok (.bipush (-9), 2) := by decide +kernel
theorem dX1_nearest_6 : decode cX1_nearest 6 = .ok (.goto 14, 3) := by decide +kernel
theorem dX1_nearest_9 : decode cX1_nearest 9 = .ok (.iconst 2, 1) := by decide +kernel
theorem dX1_nearest_10 : decode cX1_nearest 10 = .ok (.iload_n 1, 1) := by decide +kernel
theorem dX1_nearest_11 : decode cX1_nearest 11 = .ok (.imul, 1) := by decide +kernel
theorem dX1_nearest_12 : decode cX1_nearest 12 = .ok (.iload_n 0, 1) := by decide +kernel
theorem dX1_nearest_13 : decode cX1_nearest 13 = .ok (.iadd, 1) := by decide +kernel
theorem dX1_nearest_14 : decode cX1_nearest 14 = .ok (.iconst 1, 1) := by decide +kernel
theorem dX1_nearest_15 : decode cX1_nearest 15 = .ok (.isub, 1) := by decide +kernel
theorem dX1_nearest_16 : decode cX1_nearest 16 = .ok (.iconst 2, 1) := by decide +kernel
theorem dX1_nearest_17 : decode cX1_nearest 17 = .ok (.iload_n 0, 1) := by decide +kernel
theorem dX1_nearest_18 : decode cX1_nearest 18 = .ok (.imul, 1) := by decide +kernel
theorem dX1_nearest_19 : decode cX1_nearest 19 = .ok (.idiv, 1) := by decide +kernel
theorem dX1_nearest_20 : decode cX1_nearest 20 = .ok (.ireturn, 1) := by decide +kernel
theorem dX1_takeSides_0 : decode cX1_takeSides 0 = .ok (.aload_n 0, 1) := by decide +kernel
theorem dX1_takeSides_1 : decode cX1_takeSides 1 = .ok (.getfield 21, 3) := by decide +kernel
theorem dX1_takeSides_4 : decode cX1_takeSides 4 = .ok (.iconst 0, 1) := by decide +kernel
theorem dX1_takeSides_5 : decode cX1_takeSides 5 = .ok (.iconst 0, 1) := by decide +kernel
theorem dX1_takeSides_6 : decode cX1_takeSides 6 = .ok (.iastore, 1) := by decide +kernel
theorem dX1_takeSides_7 : decode cX1_takeSides 7 = .ok (.aload_n 0, 1) := by decide +kernel
theorem dX1_takeSides_8 : decode cX1_takeSides 8 = .ok (.getfield 21, 3) := by decide +kernel
theorem dX1_takeSides_11 : decode cX1_takeSides 11 = .ok (.iconst 1, 1) := by decide +kernel
theorem dX1_takeSides_12 : decode cX1_takeSides 12 = .ok (.iconst 0, 1) := by decide +kernel
theorem dX1_takeSides_13 : decode cX1_takeSides 13 = .ok (.iastore, 1) := by decide +kernel
theorem dX1_takeSides_14 : decode cX1_takeSides 14 = .ok (.iconst 0, 1) := by decide +kernel
theorem dX1_takeSides_15 : decode cX1_takeSides 15 = .ok (.istore_n 2, 1) := by decide +kernel
theorem dX1_takeSides_16 : decode cX1_takeSides 16 = .ok (.iload_n 2, 1) := by decide +kernel
theorem dX1_takeSides_17 : decode cX1_takeSides 17 = .ok (.aload_n 1, 1) := by decide +kernel
theorem dX1_takeSides_18 : decode cX1_takeSides 18 = .ok (.getfield 30, 3) := by decide +kernel
theorem dX1_takeSides_21 : decode cX1_takeSides 21 = .ok (.if_icmp .ge 62, 3) := by decide +kernel
theorem dX1_takeSides_24 : decode cX1_takeSides 24 = .ok (.aload_n 0, 1) := by decide +kernel
theorem dX1_takeSides_25 : decode cX1_takeSides 25 = .ok (.getfield 21, 3) := by decide +kernel
theorem dX1_takeSides_28 : decode cX1_takeSides 28 = .ok (.iconst 0, 1) := by decide +kernel
theorem dX1_takeSides_29 : decode cX1_takeSides 29 = .ok (.dup2, 1) := by decide +kernel
theorem dX1_takeSides_30 : decode cX1_takeSides 30 = .ok (.iaload, 1) := by decide +kernel
theorem dX1_takeSides_31 : decode cX1_takeSides 31 = .ok (.iload_n 2, 1) := by decide +kernel
theorem dX1_takeSides_32 : decode cX1_takeSides 32 = .ok (.aload_n 0, 1) := by decide +kernel
theorem dX1_takeSides_33 : decode cX1_takeSides 33 = .ok (.getfield 18, 3) := by decide +kernel
theorem dX1_takeSides_36 : decode cX1_takeSides 36 = .ok (.aload_n 1, 1) := by decide +kernel
theorem dX1_takeSides_37 : decode cX1_takeSides 37 = .ok (.getfield 36, 3) := by decide +kernel
theorem dX1_takeSides_40 : decode cX1_takeSides 40 = .ok (.iload_n 2, 1) := by decide +kernel
theorem dX1_takeSides_41 : decode cX1_takeSides 41 = .ok (.iaload, 1) := by decide +kernel
theorem dX1_takeSides_42 : decode cX1_takeSides 42 = .ok (.iaload, 1) := by decide +kernel
theorem dX1_takeSides_43 : decode cX1_takeSides 43 = .ok (.isub, 1) := by decide +kernel
theorem dX1_takeSides_44 : decode cX1_takeSides 44 = .ok (.invokestatic 54, 3) := by decide +kernel
theorem dX1_takeSides_47 : decode cX1_takeSides 47 = .ok (.iadd, 1) := by decide +kernel
theorem dX1_takeSides_48 : decode cX1_takeSides 48 = .ok (.iastore, 1) := by decide +kernel
theorem dX1_takeSides_49 : decode cX1_takeSides 49 = .ok (.aload_n 0, 1) := by decide +kernel
theorem dX1_takeSides_50 : decode cX1_takeSides 50 = .ok (.getfield 21, 3) := by decide +kernel
theorem dX1_takeSides_53 : decode cX1_takeSides 53 = .ok (.iconst 1, 1) := by decide +kernel
theorem dX1_takeSides_54 : decode cX1_takeSides 54 = .ok (.dup2, 1) := by decide +kernel
theorem dX1_takeSides_55 : decode cX1_takeSides 55 = .ok (.iaload, 1) := by decide +kernel
theorem dX1_takeSides_56 : decode cX1_takeSides 56 = .ok (.iload_n 2, 1) := by decide +kernel
theorem dX1_takeSides_57 : decode cX1_takeSides 57 = .ok (.aload_n 0, 1) := by decide +kernel
theorem dX1_takeSides_58 : decode cX1_takeSides 58 = .ok (.getfield 18, 3) := by decide +kernel
theorem dX1_takeSides_61 : decode cX1_takeSides 61 = .ok (.bipush 6, 2) := by decide +kernel
theorem dX1_takeSides_63 : decode cX1_takeSides 63 = .ok (.aload_n 1, 1) := by decide +kernel
theorem dX1_takeSides_64 : decode cX1_takeSides 64 = .ok (.getfield 43, 3) := by decide +kernel
theorem dX1_takeSides_67 : decode cX1_takeSides 67 = .ok (.iload_n 2, 1) := by decide +kernel
theorem dX1_takeSides_68 : decode cX1_takeSides 68 = .ok (.iaload, 1) := by decide +kernel
theorem dX1_takeSides_69 : decode cX1_takeSides 69 = .ok (.iadd, 1) := by decide +kernel
theorem dX1_takeSides_70 : decode cX1_takeSides 70 = .ok (.iaload, 1) := by decide +kernel
theorem dX1_takeSides_71 : decode cX1_takeSides 71 = .ok (.isub, 1) := by decide +kernel
theorem dX1_takeSides_72 : decode cX1_takeSides 72 = .ok (.invokestatic 54, 3) := by decide +kernel
theorem dX1_takeSides_75 : decode cX1_takeSides 75 = .ok (.iadd, 1) := by decide +kernel
theorem dX1_takeSides_76 : decode cX1_takeSides 76 = .ok (.iastore, 1) := by decide +kernel
theorem dX1_takeSides_77 : decode cX1_takeSides 77 = .ok (.iinc 2 1, 3) := by decide +kernel
theorem dX1_takeSides_80 : decode cX1_takeSides 80 = .ok (.goto (-64), 3) := by decide +kernel
theorem dX1_takeSides_83 : decode cX1_takeSides 83 = .ok (.return_, 1) := by decide +kernel
theorem dX1_of_0 : decode cX1_of 0 = .ok (.aload_n 0, 1) := by decide +kernel
theorem dX1_of_1 : decode cX1_of 1 = .ok (.getfield 18, 3) := by decide +kernel
theorem dX1_of_4 : decode cX1_of 4 = .ok (.iload_n 1, 1) := by decide +kernel
theorem dX1_of_5 : decode cX1_of 5 = .ok (.bipush 6, 2) := by decide +kernel
theorem dX1_of_7 : decode cX1_of 7 = .ok (.imul, 1) := by decide +kernel
theorem dX1_of_8 : decode cX1_of 8 = .ok (.iload_n 2, 1) := by decide +kernel
theorem dX1_of_9 : decode cX1_of 9 = .ok (.iadd, 1) := by decide +kernel
theorem dX1_of_10 : decode cX1_of 10 = .ok (.iaload, 1) := by decide +kernel
theorem dX1_of_11 : decode cX1_of 11 = .ok (.ireturn, 1) := by decide +kernel
theorem dX1_side_0 : decode cX1_side 0 = .ok (.aload_n 0, 1) := by decide +kernel
theorem dX1_side_1 : decode cX1_side 1 = .ok (.getfield 21, 3) := by decide +kernel
theorem dX1_side_4 : decode cX1_side 4 = .ok (.iload_n 1, 1) := by decide +kernel
theorem dX1_side_5 : decode cX1_side 5 = .ok (.iaload, 1) := by decide +kernel
theorem dX1_side_6 : decode cX1_side 6 = .ok (.ireturn, 1) := by decide +kernel
theorem dX2_init_0 : decode cX2_init 0 = .ok (.aload_n 0, 1) := by decide +kernel
theorem dX2_init_1 : decode cX2_init 1 = .ok (.invokespecial 3, 3) := by decide +kernel
theorem dX2_init_4 : decode cX2_init 4 = .ok (.aload_n 0, 1) := by decide +kernel
theorem dX2_init_5 : decode cX2_init 5 = .ok (.new 9, 3) := by decide +kernel
theorem dX2_init_8 : decode cX2_init 8 = .ok (.dup, 1) := by decide +kernel
theorem dX2_init_9 : decode cX2_init 9 = .ok (.invokespecial 11, 3) := by decide +kernel
theorem dX2_init_12 : decode cX2_init 12 = .ok (.putfield 12, 3) := by decide +kernel
theorem dX2_init_15 : decode cX2_init 15 = .ok (.aload_n 0, 1) := by decide +kernel
theorem dX2_init_16 : decode cX2_init 16 = .ok (.bipush 16, 2) := by decide +kernel
theorem dX2_init_18 : decode cX2_init 18 = .ok (.newarray .int, 2) := by decide +kernel
theorem dX2_init_20 : decode cX2_init 20 = .ok (.putfield 18, 3) := by decide +kernel
theorem dX2_init_23 : decode cX2_init 23 = .ok (.return_, 1) := by decide +kernel
theorem dX2_missBy_0 : decode cX2_missBy 0 = .ok (.aload_n 0, 1) := by decide +kernel
theorem dX2_missBy_1 : decode cX2_missBy 1 = .ok (.aload_n 1, 1) := by decide +kernel
theorem dX2_missBy_2 : decode cX2_missBy 2 = .ok (.iload_n 2, 1) := by decide +kernel
theorem dX2_missBy_3 : decode cX2_missBy 3 = .ok (.iload_n 3, 1) := by decide +kernel
theorem dX2_missBy_4 : decode cX2_missBy 4 = .ok (.invokevirtual 22, 3) := by decide +kernel
theorem dX2_missBy_7 : decode cX2_missBy 7 = .ok (.iconst 0, 1) := by decide +kernel
theorem dX2_missBy_8 : decode cX2_missBy 8 = .ok (.istore 4, 2) := by decide +kernel
theorem dX2_missBy_10 : decode cX2_missBy 10 = .ok (.iconst 0, 1) := by decide +kernel
theorem dX2_missBy_11 : decode cX2_missBy 11 = .ok (.istore 5, 2) := by decide +kernel
theorem dX2_missBy_13 : decode cX2_missBy 13 = .ok (.iload 5, 2) := by decide +kernel
theorem dX2_missBy_15 : decode cX2_missBy 15 = .ok (.bipush 16, 2) := by decide +kernel
theorem dX2_missBy_17 : decode cX2_missBy 17 = .ok (.if_icmp .ge 32, 3) := by decide +kernel
theorem dX2_missBy_20 : decode cX2_missBy 20 = .ok (.iload 4, 2) := by decide +kernel
theorem dX2_missBy_22 : decode cX2_missBy 22 = .ok (.aload_n 0, 1) := by decide +kernel
theorem dX2_missBy_23 : decode cX2_missBy 23 = .ok (.getfield 18, 3) := by decide +kernel
theorem dX2_missBy_26 : decode cX2_missBy 26 = .ok (.iload 5, 2) := by decide +kernel
theorem dX2_missBy_28 : decode cX2_missBy 28 = .ok (.iaload, 1) := by decide +kernel
theorem dX2_missBy_29 : decode cX2_missBy 29 = .ok (.aload_n 1, 1) := by decide +kernel
theorem dX2_missBy_30 : decode cX2_missBy 30 = .ok (.getfield 26, 3) := by decide +kernel
theorem dX2_missBy_33 : decode cX2_missBy 33 = .ok (.iload 5, 2) := by decide +kernel
theorem dX2_missBy_35 : decode cX2_missBy 35 = .ok (.iaload, 1) := by decide +kernel
theorem dX2_missBy_36 : decode cX2_missBy 36 = .ok (.isub, 1) := by decide +kernel
theorem dX2_missBy_37 : decode cX2_missBy 37 = .ok (.invokestatic 29, 3) := by decide +kernel
theorem dX2_missBy_40 : decode cX2_missBy 40 = .ok (.iadd, 1) := by decide +kernel
theorem dX2_missBy_41 : decode cX2_missBy 41 = .ok (.istore 4, 2) := by decide +kernel
theorem dX2_missBy_43 : decode cX2_missBy 43 = .ok (.iinc 5 1, 3) := by decide +kernel
theorem dX2_missBy_46 : decode cX2_missBy 46 = .ok (.goto (-33), 3) := by decide +kernel
theorem dX2_missBy_49 : decode cX2_missBy 49 = .ok (.iload 4, 2) := by decide +kernel
theorem dX2_missBy_51 : decode cX2_missBy 51 = .ok (.ireturn, 1) := by decide +kernel
theorem dX2_send_0 : decode cX2_send 0 = .ok (.aload_n 0, 1) := by decide +kernel
theorem dX2_send_1 : decode cX2_send 1 = .ok (.getfield 12, 3) := by decide +kernel
theorem dX2_send_4 : decode cX2_send 4 = .ok (.aload_n 1, 1) := by decide +kernel
theorem dX2_send_5 : decode cX2_send 5 = .ok (.invokevirtual 33, 3) := by decide +kernel
theorem dX2_send_8 : decode cX2_send 8 = .ok (.aload_n 0, 1) := by decide +kernel
theorem dX2_send_9 : decode cX2_send 9 = .ok (.iconst 0, 1) := by decide +kernel
theorem dX2_send_10 : decode cX2_send 10 = .ok (.putfield 37, 3) := by decide +kernel
theorem dX2_send_13 : decode cX2_send 13 = .ok (.iconst 0, 1) := by decide +kernel
theorem dX2_send_14 : decode cX2_send 14 = .ok (.istore 4, 2) := by decide +kernel
theorem dX2_send_16 : decode cX2_send 16 = .ok (.iload 4, 2) := by decide +kernel
theorem dX2_send_18 : decode cX2_send 18 = .ok (.iconst 4, 1) := by decide +kernel
theorem dX2_send_19 : decode cX2_send 19 = .ok (.if_icmp .ge 68, 3) := by decide +kernel
theorem dX2_send_22 : decode cX2_send 22 = .ok (.iload_n 3, 1) := by decide +kernel
theorem dX2_send_23 : decode cX2_send 23 = .ok (.iload 4, 2) := by decide +kernel
theorem dX2_send_25 : decode cX2_send 25 = .ok (.invokestatic 41, 3) := by decide +kernel
theorem dX2_send_28 : decode cX2_send 28 = .ok (.istore 5, 2) := by decide +kernel
theorem dX2_send_30 : decode cX2_send 30 = .ok (.iload_n 3, 1) := by decide +kernel
theorem dX2_send_31 : decode cX2_send 31 = .ok (.iload 4, 2) := by decide +kernel
theorem dX2_send_33 : decode cX2_send 33 = .ok (.iconst 4, 1) := by decide +kernel
theorem dX2_send_34 : decode cX2_send 34 = .ok (.iadd, 1) := by decide +kernel
theorem dX2_send_35 : decode cX2_send 35 = .ok (.iload_n 2, 1) := by decide +kernel
theorem dX2_send_36 : decode cX2_send 36 = .ok (.isub, 1) := by decide +kernel
theorem dX2_send_37 : decode cX2_send 37 = .ok (.iconst 4, 1) := by decide +kernel
theorem dX2_send_38 : decode cX2_send 38 = .ok (.irem, 1) := by decide +kernel
theorem dX2_send_39 : decode cX2_send 39 = .ok (.invokestatic 41, 3) := by decide +kernel
theorem dX2_send_42 : decode cX2_send 42 = .ok (.istore 6, 2) := by decide +kernel
theorem dX2_send_44 : decode cX2_send 44 = .ok (.iload 5, 2) := by decide +kernel
theorem dX2_send_46 : decode cX2_send 46 = .ok (.ifCond .ne 8, 3) := by decide +kernel
theorem dX2_send_49 : decode cX2_send 49 = .ok (.iload 6, 2) := by decide +kernel
theorem dX2_send_51 : decode cX2_send 51 = .ok (.ifCond .eq 17, 3) := by decide +kernel
theorem dX2_send_54 : decode cX2_send 54 = .ok (.aload_n 0, 1) := by decide +kernel
theorem dX2_send_55 : decode cX2_send 55 = .ok (.aload_n 1, 1) := by decide +kernel
theorem dX2_send_56 : decode cX2_send 56 = .ok (.iload 4, 2) := by decide +kernel
theorem dX2_send_58 : decode cX2_send 58 = .ok (.iload 5, 2) := by decide +kernel
theorem dX2_send_60 : decode cX2_send 60 = .ok (.iload 6, 2) := by decide +kernel
theorem dX2_send_62 : decode cX2_send 62 = .ok (.invokevirtual 45, 3) := by decide +kernel
theorem dX2_send_65 : decode cX2_send 65 = .ok (.goto 16, 3) := by decide +kernel
theorem dX2_send_68 : decode cX2_send 68 = .ok (.aload_n 0, 1) := by decide +kernel
theorem dX2_send_69 : decode cX2_send 69 = .ok (.dup, 1) := by decide +kernel
theorem dX2_send_70 : decode cX2_send 70 = .ok (.getfield 37, 3) := by decide +kernel
theorem dX2_send_73 : decode cX2_send 73 = .ok (.iconst 1, 1) := by decide +kernel
theorem dX2_send_74 : decode cX2_send 74 = .ok (.iload 4, 2) := by decide +kernel
theorem dX2_send_76 : decode cX2_send 76 = .ok (.ishl, 1) := by decide +kernel
theorem dX2_send_77 : decode cX2_send 77 = .ok (.ior, 1) := by decide +kernel
theorem dX2_send_78 : decode cX2_send 78 = .ok (.putfield 37, 3) := by decide +kernel
theorem dX2_send_81 : decode cX2_send 81 = .ok (.iinc 4 1, 3) := by decide +kernel
theorem dX2_send_84 : decode cX2_send 84 = .ok (.goto (-68), 3) := by decide +kernel
theorem dX2_send_87 : decode cX2_send 87 = .ok (.iconst 0, 1) := by decide +kernel
theorem dX2_send_88 : decode cX2_send 88 = .ok (.istore 4, 2) := by decide +kernel
theorem dX2_send_90 : decode cX2_send 90 = .ok (.iload 4, 2) := by decide +kernel
theorem dX2_send_92 : decode cX2_send 92 = .ok (.iconst 4, 1) := by decide +kernel
theorem dX2_send_93 : decode cX2_send 93 = .ok (.if_icmp .ge 24, 3) := by decide +kernel
theorem dX2_send_96 : decode cX2_send 96 = .ok (.aload_n 0, 1) := by decide +kernel
theorem dX2_send_97 : decode cX2_send 97 = .ok (.iload 4, 2) := by decide +kernel
theorem dX2_send_99 : decode cX2_send 99 = .ok (.invokevirtual 49, 3) := by decide +kernel
theorem dX2_send_102 : decode cX2_send 102 = .ok (.ifCond .eq 9, 3) := by decide +kernel
theorem dX2_send_105 : decode cX2_send 105 = .ok (.aload_n 0, 1) := by decide +kernel
theorem dX2_send_106 : decode cX2_send 106 = .ok (.iload 4, 2) := by decide +kernel
theorem dX2_send_108 : decode cX2_send 108 = .ok (.invokevirtual 53, 3) := by decide +kernel
theorem dX2_send_111 : decode cX2_send 111 = .ok (.iinc 4 1, 3) := by decide +kernel
theorem dX2_send_114 : decode cX2_send 114 = .ok (.goto (-24), 3) := by decide +kernel
theorem dX2_send_117 : decode cX2_send 117 = .ok (.return_, 1) := by decide +kernel
theorem dX2_came_0 : decode cX2_came 0 = .ok (.iload_n 0, 1) := by decide +kernel
theorem dX2_came_1 : decode cX2_came 1 = .ok (.iload_n 1, 1) := by decide +kernel
theorem dX2_came_2 : decode cX2_came 2 = .ok (.ishr, 1) := by decide +kernel
theorem dX2_came_3 : decode cX2_came 3 = .ok (.iconst 1, 1) := by decide +kernel
theorem dX2_came_4 : decode cX2_came 4 = .ok (.iand, 1) := by decide +kernel
theorem dX2_came_5 : decode cX2_came 5 = .ok (.ifCond .ne 7, 3) := by decide +kernel
theorem dX2_came_8 : decode cX2_came 8 = .ok (.iconst 1, 1) := by decide +kernel
theorem dX2_came_9 : decode cX2_came 9 = .ok (.goto 4, 3) := by decide +kernel
theorem dX2_came_12 : decode cX2_came 12 = .ok (.iconst 0, 1) := by decide +kernel
theorem dX2_came_13 : decode cX2_came 13 = .ok (.ireturn, 1) := by decide +kernel
theorem dX2_isBlank_0 : decode cX2_isBlank 0 = .ok (.aload_n 0, 1) := by decide +kernel
theorem dX2_isBlank_1 : decode cX2_isBlank 1 = .ok (.getfield 37, 3) := by decide +kernel
theorem dX2_isBlank_4 : decode cX2_isBlank 4 = .ok (.iload_n 1, 1) := by decide +kernel
theorem dX2_isBlank_5 : decode cX2_isBlank 5 = .ok (.ishr, 1) := by decide +kernel
theorem dX2_isBlank_6 : decode cX2_isBlank 6 = .ok (.iconst 1, 1) := by decide +kernel
theorem dX2_isBlank_7 : decode cX2_isBlank 7 = .ok (.iand, 1) := by decide +kernel
theorem dX2_isBlank_8 : decode cX2_isBlank 8 = .ok (.iconst 1, 1) := by decide +kernel
theorem dX2_isBlank_9 : decode cX2_isBlank 9 = .ok (.if_icmp .ne 7, 3) := by decide +kernel
theorem dX2_isBlank_12 : decode cX2_isBlank 12 = .ok (.iconst 1, 1) := by decide +kernel
theorem dX2_isBlank_13 : decode cX2_isBlank 13 = .ok (.goto 4, 3) := by decide +kernel
theorem dX2_isBlank_16 : decode cX2_isBlank 16 = .ok (.iconst 0, 1) := by decide +kernel
theorem dX2_isBlank_17 : decode cX2_isBlank 17 = .ok (.ireturn, 1) := by decide +kernel
theorem dX2_fill_0 : decode cX2_fill 0 = .ok (.iload_n 2, 1) := by decide +kernel
theorem dX2_fill_1 : decode cX2_fill 1 = .ok (.iconst 4, 1) := by decide +kernel
theorem dX2_fill_2 : decode cX2_fill 2 = .ok (.imul, 1) := by decide +kernel
theorem dX2_fill_3 : decode cX2_fill 3 = .ok (.istore 5, 2) := by decide +kernel
theorem dX2_fill_5 : decode cX2_fill 5 = .ok (.iload 5, 2) := by decide +kernel
theorem dX2_fill_7 : decode cX2_fill 7 = .ok (.iload_n 2, 1) := by decide +kernel
theorem dX2_fill_8 : decode cX2_fill 8 = .ok (.iconst 1, 1) := by decide +kernel
theorem dX2_fill_9 : decode cX2_fill 9 = .ok (.iadd, 1) := by decide +kernel
theorem dX2_fill_10 : decode cX2_fill 10 = .ok (.iconst 4, 1) := by decide +kernel
theorem dX2_fill_11 : decode cX2_fill 11 = .ok (.imul, 1) := by decide +kernel
theorem dX2_fill_12 : decode cX2_fill 12 = .ok (.if_icmp .ge 110, 3) := by decide +kernel
theorem dX2_fill_15 : decode cX2_fill 15 = .ok (.aload_n 1, 1) := by decide +kernel
theorem dX2_fill_16 : decode cX2_fill 16 = .ok (.getfield 26, 3) := by decide +kernel
theorem dX2_fill_19 : decode cX2_fill 19 = .ok (.iload 5, 2) := by decide +kernel
theorem dX2_fill_21 : decode cX2_fill 21 = .ok (.iaload, 1) := by decide +kernel
theorem dX2_fill_22 : decode cX2_fill 22 = .ok (.istore 6, 2) := by decide +kernel
theorem dX2_fill_24 : decode cX2_fill 24 = .ok (.aload_n 1, 1) := by decide +kernel
theorem dX2_fill_25 : decode cX2_fill 25 = .ok (.iload 6, 2) := by decide +kernel
theorem dX2_fill_27 : decode cX2_fill 27 = .ok (.invokevirtual 57, 3) := by decide +kernel
theorem dX2_fill_30 : decode cX2_fill 30 = .ok (.ifCond .ne 14, 3) := by decide +kernel
theorem dX2_fill_33 : decode cX2_fill 33 = .ok (.aload_n 0, 1) := by decide +kernel
theorem dX2_fill_34 : decode cX2_fill 34 = .ok (.getfield 18, 3) := by decide +kernel
theorem dX2_fill_37 : decode cX2_fill 37 = .ok (.iload 5, 2) := by decide +kernel
theorem dX2_fill_39 : decode cX2_fill 39 = .ok (.iconst 0, 1) := by decide +kernel
theorem dX2_fill_40 : decode cX2_fill 40 = .ok (.iastore, 1) := by decide +kernel
theorem dX2_fill_41 : decode cX2_fill 41 = .ok (.goto 75, 3) := by decide +kernel
theorem dX2_fill_44 : decode cX2_fill 44 = .ok (.iload_n 3, 1) := by decide +kernel
theorem dX2_fill_45 : decode cX2_fill 45 = .ok (.ifCond .eq 20, 3) := by decide +kernel
theorem dX2_fill_48 : decode cX2_fill 48 = .ok (.iload 4, 2) := by decide +kernel
theorem dX2_fill_50 : decode cX2_fill 50 = .ok (.ifCond .eq 15, 3) := by decide +kernel
theorem dX2_fill_53 : decode cX2_fill 53 = .ok (.aload_n 0, 1) := by decide +kernel
theorem dX2_fill_54 : decode cX2_fill 54 = .ok (.getfield 18, 3) := by decide +kernel
theorem dX2_fill_57 : decode cX2_fill 57 = .ok (.iload 5, 2) := by decide +kernel
theorem dX2_fill_59 : decode cX2_fill 59 = .ok (.iload 6, 2) := by decide +kernel
theorem dX2_fill_61 : decode cX2_fill 61 = .ok (.iastore, 1) := by decide +kernel
theorem dX2_fill_62 : decode cX2_fill 62 = .ok (.goto 54, 3) := by decide +kernel
theorem dX2_fill_65 : decode cX2_fill 65 = .ok (.iload_n 3, 1) := by decide +kernel
theorem dX2_fill_66 : decode cX2_fill 66 = .ok (.ifCond .eq 28, 3) := by decide +kernel
theorem dX2_fill_69 : decode cX2_fill 69 = .ok (.aload_n 0, 1) := by decide +kernel
theorem dX2_fill_70 : decode cX2_fill 70 = .ok (.getfield 18, 3) := by decide +kernel
theorem dX2_fill_73 : decode cX2_fill 73 = .ok (.iload 5, 2) := by decide +kernel
theorem dX2_fill_75 : decode cX2_fill 75 = .ok (.aload_n 0, 1) := by decide +kernel
theorem dX2_fill_76 : decode cX2_fill 76 = .ok (.getfield 12, 3) := by decide +kernel
theorem dX2_fill_79 : decode cX2_fill 79 = .ok (.iconst 0, 1) := by decide +kernel
theorem dX2_fill_80 : decode cX2_fill 80 = .ok (.aload_n 1, 1) := by decide +kernel
theorem dX2_fill_81 : decode cX2_fill 81 = .ok (.getfield 60, 3) := by decide +kernel
theorem dX2_fill_84 : decode cX2_fill 84 = .ok (.iload 6, 2) := by decide +kernel
theorem dX2_fill_86 : decode cX2_fill 86 = .ok (.iaload, 1) := by decide +kernel
theorem dX2_fill_87 : decode cX2_fill 87 = .ok (.invokevirtual 63, 3) := by decide +kernel
theorem dX2_fill_90 : decode cX2_fill 90 = .ok (.iastore, 1) := by decide +kernel
theorem dX2_fill_91 : decode cX2_fill 91 = .ok (.goto 25, 3) := by decide +kernel
theorem dX2_fill_94 : decode cX2_fill 94 = .ok (.aload_n 0, 1) := by decide +kernel
theorem dX2_fill_95 : decode cX2_fill 95 = .ok (.getfield 18, 3) := by decide +kernel
theorem dX2_fill_98 : decode cX2_fill 98 = .ok (.iload 5, 2) := by decide +kernel
theorem dX2_fill_100 : decode cX2_fill 100 = .ok (.aload_n 0, 1) := by decide +kernel
theorem dX2_fill_101 : decode cX2_fill 101 = .ok (.getfield 12, 3) := by decide +kernel
theorem dX2_fill_104 : decode cX2_fill 104 = .ok (.iconst 1, 1) := by decide +kernel
theorem dX2_fill_105 : decode cX2_fill 105 = .ok (.aload_n 1, 1) := by decide +kernel
theorem dX2_fill_106 : decode cX2_fill 106 = .ok (.getfield 67, 3) := by decide +kernel
theorem dX2_fill_109 : decode cX2_fill 109 = .ok (.iload 6, 2) := by decide +kernel
theorem dX2_fill_111 : decode cX2_fill 111 = .ok (.iaload, 1) := by decide +kernel
theorem dX2_fill_112 : decode cX2_fill 112 = .ok (.invokevirtual 63, 3) := by decide +kernel
theorem dX2_fill_115 : decode cX2_fill 115 = .ok (.iastore, 1) := by decide +kernel
theorem dX2_fill_116 : decode cX2_fill 116 = .ok (.iinc 5 1, 3) := by decide +kernel
theorem dX2_fill_119 : decode cX2_fill 119 = .ok (.goto (-114), 3) := by decide +kernel
theorem dX2_fill_122 : decode cX2_fill 122 = .ok (.return_, 1) := by decide +kernel
theorem dX2_fillBlank_0 : decode cX2_fillBlank 0 = .ok (.iload_n 1, 1) := by decide +kernel
theorem dX2_fillBlank_1 : decode cX2_fillBlank 1 = .ok (.iconst 1, 1) := by decide +kernel
theorem dX2_fillBlank_2 : decode cX2_fillBlank 2 = .ok (.isub, 1) := by decide +kernel
theorem dX2_fillBlank_3 : decode cX2_fillBlank 3 = .ok (.istore_n 2, 1) := by decide +kernel
theorem dX2_fillBlank_4 : decode cX2_fillBlank 4 = .ok (.iload_n 2, 1) := by decide +kernel
theorem dX2_fillBlank_5 : decode cX2_fillBlank 5 = .ok (.ifCond .lt 17, 3) := by decide +kernel
theorem dX2_fillBlank_8 : decode cX2_fillBlank 8 = .ok (.aload_n 0, 1) := by decide +kernel
theorem dX2_fillBlank_9 : decode cX2_fillBlank 9 = .ok (.iload_n 2, 1) := by decide +kernel
theorem dX2_fillBlank_10 : decode cX2_fillBlank 10 = .ok (.invokevirtual 49, 3) := by decide +kernel
theorem dX2_fillBlank_13 : decode cX2_fillBlank 13 = .ok (.ifCond .eq 9, 3) := by decide +kernel
theorem dX2_fillBlank_16 : decode cX2_fillBlank 16 = .ok (.iinc 2 (-1), 3) := by decide +kernel
theorem dX2_fillBlank_19 : decode cX2_fillBlank 19 = .ok (.goto (-15), 3) := by decide +kernel
theorem dX2_fillBlank_22 : decode cX2_fillBlank 22 = .ok (.iload_n 1, 1) := by decide +kernel
theorem dX2_fillBlank_23 : decode cX2_fillBlank 23 = .ok (.iconst 1, 1) := by decide +kernel
theorem dX2_fillBlank_24 : decode cX2_fillBlank 24 = .ok (.iadd, 1) := by decide +kernel
theorem dX2_fillBlank_25 : decode cX2_fillBlank 25 = .ok (.istore_n 3, 1) := by decide +kernel
theorem dX2_fillBlank_26 : decode cX2_fillBlank 26 = .ok (.iload_n 3, 1) := by decide +kernel
theorem dX2_fillBlank_27 : decode cX2_fillBlank 27 = .ok (.iconst 4, 1) := by decide +kernel
theorem dX2_fillBlank_28 : decode cX2_fillBlank 28 = .ok (.if_icmp .ge 17, 3) := by decide +kernel
theorem dX2_fillBlank_31 : decode cX2_fillBlank 31 = .ok (.aload_n 0, 1) := by decide +kernel
theorem dX2_fillBlank_32 : decode cX2_fillBlank 32 = .ok (.iload_n 3, 1) := by decide +kernel
theorem dX2_fillBlank_33 : decode cX2_fillBlank 33 = .ok (.invokevirtual 49, 3) := by decide +kernel
theorem dX2_fillBlank_36 : decode cX2_fillBlank 36 = .ok (.ifCond .eq 9, 3) := by decide +kernel
theorem dX2_fillBlank_39 : decode cX2_fillBlank 39 = .ok (.iinc 3 1, 3) := by decide +kernel
theorem dX2_fillBlank_42 : decode cX2_fillBlank 42 = .ok (.goto (-16), 3) := by decide +kernel
theorem dX2_fillBlank_45 : decode cX2_fillBlank 45 = .ok (.iconst 0, 1) := by decide +kernel
theorem dX2_fillBlank_46 : decode cX2_fillBlank 46 = .ok (.istore 4, 2) := by decide +kernel
theorem dX2_fillBlank_48 : decode cX2_fillBlank 48 = .ok (.iload 4, 2) := by decide +kernel
theorem dX2_fillBlank_50 : decode cX2_fillBlank 50 = .ok (.iconst 4, 1) := by decide +kernel
theorem dX2_fillBlank_51 : decode cX2_fillBlank 51 = .ok (.if_icmp .ge 28, 3) := by decide +kernel
theorem dX2_fillBlank_54 : decode cX2_fillBlank 54 = .ok (.aload_n 0, 1) := by decide +kernel
theorem dX2_fillBlank_55 : decode cX2_fillBlank 55 = .ok (.getfield 18, 3) := by decide +kernel
theorem dX2_fillBlank_58 : decode cX2_fillBlank 58 = .ok (.iload_n 1, 1) := by decide +kernel
theorem dX2_fillBlank_59 : decode cX2_fillBlank 59 = .ok (.iconst 4, 1) := by decide +kernel
theorem dX2_fillBlank_60 : decode cX2_fillBlank 60 = .ok (.imul, 1) := by decide +kernel
theorem dX2_fillBlank_61 : decode cX2_fillBlank 61 = .ok (.iload 4, 2) := by decide +kernel
theorem dX2_fillBlank_63 : decode cX2_fillBlank 63 = .ok (.iadd, 1) := by decide +kernel
theorem dX2_fillBlank_64 : decode cX2_fillBlank 64 = .ok (.aload_n 0, 1) := by decide +kernel
theorem dX2_fillBlank_65 : decode cX2_fillBlank 65 = .ok (.iload_n 2, 1) := by decide +kernel
theorem dX2_fillBlank_66 : decode cX2_fillBlank 66 = .ok (.iload_n 3, 1) := by decide +kernel
theorem dX2_fillBlank_67 : decode cX2_fillBlank 67 = .ok (.iload 4, 2) := by decide +kernel
theorem dX2_fillBlank_69 : decode cX2_fillBlank 69 = .ok (.invokevirtual 70, 3) := by decide +kernel
theorem dX2_fillBlank_72 : decode cX2_fillBlank 72 = .ok (.iastore, 1) := by decide +kernel
theorem dX2_fillBlank_73 : decode cX2_fillBlank 73 = .ok (.iinc 4 1, 3) := by decide +kernel
theorem dX2_fillBlank_76 : decode cX2_fillBlank 76 = .ok (.goto (-28), 3) := by decide +kernel
theorem dX2_fillBlank_79 : decode cX2_fillBlank 79 = .ok (.return_, 1) := by decide +kernel
theorem dX2_between_0 : decode cX2_between 0 = .ok (.iload_n 1, 1) := by decide +kernel
theorem dX2_between_1 : decode cX2_between 1 = .ok (.ifCond .ge 10, 3) := by decide +kernel
theorem dX2_between_4 : decode cX2_between 4 = .ok (.iload_n 2, 1) := by decide +kernel
theorem dX2_between_5 : decode cX2_between 5 = .ok (.iconst 4, 1) := by decide +kernel
theorem dX2_between_6 : decode cX2_between 6 = .ok (.if_icmp .lt 5, 3) := by decide +kernel
theorem dX2_between_9 : decode cX2_between 9 = .ok (.iconst 0, 1) := by decide +kernel
theorem dX2_between_10 : decode cX2_between 10 = .ok (.ireturn, 1) := by decide +kernel
theorem dX2_between_11 : decode cX2_between 11 = .ok (.iload_n 1, 1) := by decide +kernel
theorem dX2_between_12 : decode cX2_between 12 = .ok (.ifCond .ge 14, 3) := by decide +kernel
theorem dX2_between_15 : decode cX2_between 15 = .ok (.aload_n 0, 1) := by decide +kernel
theorem dX2_between_16 : decode cX2_between 16 = .ok (.getfield 18, 3) := by decide +kernel
theorem dX2_between_19 : decode cX2_between 19 = .ok (.iload_n 2, 1) := by decide +kernel
theorem dX2_between_20 : decode cX2_between 20 = .ok (.iconst 4, 1) := by decide +kernel
theorem dX2_between_21 : decode cX2_between 21 = .ok (.imul, 1) := by decide +kernel
theorem dX2_between_22 : decode cX2_between 22 = .ok (.iload_n 3, 1) := by decide +kernel
theorem dX2_between_23 : decode cX2_between 23 = .ok (.iadd, 1) := by decide +kernel
theorem dX2_between_24 : decode cX2_between 24 = .ok (.iaload, 1) := by decide +kernel
theorem dX2_between_25 : decode cX2_between 25 = .ok (.ireturn, 1) := by decide +kernel
theorem dX2_between_26 : decode cX2_between 26 = .ok (.iload_n 2, 1) := by decide +kernel
theorem dX2_between_27 : decode cX2_between 27 = .ok (.iconst 4, 1) := by decide +kernel
theorem dX2_between_28 : decode cX2_between 28 = .ok (.if_icmp .lt 14, 3) := by decide +kernel
theorem dX2_between_31 : decode cX2_between 31 = .ok (.aload_n 0, 1) := by decide +kernel
theorem dX2_between_32 : decode cX2_between 32 = .ok (.getfield 18, 3) := by decide +kernel
theorem dX2_between_35 : decode cX2_between 35 = .ok (.iload_n 1, 1) := by decide +kernel
theorem dX2_between_36 : decode cX2_between 36 = .ok (.iconst 4, 1) := by decide +kernel
theorem dX2_between_37 : decode cX2_between 37 = .ok (.imul, 1) := by decide +kernel
theorem dX2_between_38 : decode cX2_between 38 = .ok (.iload_n 3, 1) := by decide +kernel
theorem dX2_between_39 : decode cX2_between 39 = .ok (.iadd, 1) := by decide +kernel
theorem dX2_between_40 : decode cX2_between 40 = .ok (.iaload, 1) := by decide +kernel
theorem dX2_between_41 : decode cX2_between 41 = .ok (.ireturn, 1) := by decide +kernel
theorem dX2_between_42 : decode cX2_between 42 = .ok (.aload_n 0, 1) := by decide +kernel
theorem dX2_between_43 : decode cX2_between 43 = .ok (.getfield 18, 3) := by decide +kernel
theorem dX2_between_46 : decode cX2_between 46 = .ok (.iload_n 1, 1) := by decide +kernel
theorem dX2_between_47 : decode cX2_between 47 = .ok (.iconst 4, 1) := by decide +kernel
theorem dX2_between_48 : decode cX2_between 48 = .ok (.imul, 1) := by decide +kernel
theorem dX2_between_49 : decode cX2_between 49 = .ok (.iload_n 3, 1) := by decide +kernel
theorem dX2_between_50 : decode cX2_between 50 = .ok (.iadd, 1) := by decide +kernel
theorem dX2_between_51 : decode cX2_between 51 = .ok (.iaload, 1) := by decide +kernel
theorem dX2_between_52 : decode cX2_between 52 = .ok (.aload_n 0, 1) := by decide +kernel
theorem dX2_between_53 : decode cX2_between 53 = .ok (.getfield 18, 3) := by decide +kernel
theorem dX2_between_56 : decode cX2_between 56 = .ok (.iload_n 2, 1) := by decide +kernel
theorem dX2_between_57 : decode cX2_between 57 = .ok (.iconst 4, 1) := by decide +kernel
theorem dX2_between_58 : decode cX2_between 58 = .ok (.imul, 1) := by decide +kernel
theorem dX2_between_59 : decode cX2_between 59 = .ok (.iload_n 3, 1) := by decide +kernel
theorem dX2_between_60 : decode cX2_between 60 = .ok (.iadd, 1) := by decide +kernel
theorem dX2_between_61 : decode cX2_between 61 = .ok (.iaload, 1) := by decide +kernel
theorem dX2_between_62 : decode cX2_between 62 = .ok (.iadd, 1) := by decide +kernel
theorem dX2_between_63 : decode cX2_between 63 = .ok (.iconst 2, 1) := by decide +kernel
theorem dX2_between_64 : decode cX2_between 64 = .ok (.idiv, 1) := by decide +kernel
theorem dX2_between_65 : decode cX2_between 65 = .ok (.ireturn, 1) := by decide +kernel
theorem dX3_init_0 : decode cX3_init 0 = .ok (.aload_n 0, 1) := by decide +kernel
theorem dX3_init_1 : decode cX3_init 1 = .ok (.invokespecial 3, 3) := by decide +kernel
theorem dX3_init_4 : decode cX3_init 4 = .ok (.aload_n 0, 1) := by decide +kernel
theorem dX3_init_5 : decode cX3_init 5 = .ok (.bipush 6, 2) := by decide +kernel
theorem dX3_init_7 : decode cX3_init 7 = .ok (.newarray .int, 2) := by decide +kernel
theorem dX3_init_9 : decode cX3_init 9 = .ok (.putfield 9, 3) := by decide +kernel
theorem dX3_init_12 : decode cX3_init 12 = .ok (.aload_n 0, 1) := by decide +kernel
theorem dX3_init_13 : decode cX3_init 13 = .ok (.bipush 6, 2) := by decide +kernel
theorem dX3_init_15 : decode cX3_init 15 = .ok (.newarray .int, 2) := by decide +kernel
theorem dX3_init_17 : decode cX3_init 17 = .ok (.putfield 15, 3) := by decide +kernel
theorem dX3_init_20 : decode cX3_init 20 = .ok (.return_, 1) := by decide +kernel
theorem dX3_add_0 : decode cX3_add 0 = .ok (.aload_n 0, 1) := by decide +kernel
theorem dX3_add_1 : decode cX3_add 1 = .ok (.getfield 18, 3) := by decide +kernel
theorem dX3_add_4 : decode cX3_add 4 = .ok (.bipush 6, 2) := by decide +kernel
theorem dX3_add_6 : decode cX3_add 6 = .ok (.if_icmp .lt 5, 3) := by decide +kernel
theorem dX3_add_9 : decode cX3_add 9 = .ok (.iconst 0, 1) := by decide +kernel
theorem dX3_add_10 : decode cX3_add 10 = .ok (.ireturn, 1) := by decide +kernel
theorem dX3_add_11 : decode cX3_add 11 = .ok (.aload_n 0, 1) := by decide +kernel
theorem dX3_add_12 : decode cX3_add 12 = .ok (.getfield 9, 3) := by decide +kernel
theorem dX3_add_15 : decode cX3_add 15 = .ok (.aload_n 0, 1) := by decide +kernel
theorem dX3_add_16 : decode cX3_add 16 = .ok (.getfield 18, 3) := by decide +kernel
theorem dX3_add_19 : decode cX3_add 19 = .ok (.iload_n 1, 1) := by decide +kernel
theorem dX3_add_20 : decode cX3_add 20 = .ok (.iastore, 1) := by decide +kernel
theorem dX3_add_21 : decode cX3_add 21 = .ok (.aload_n 0, 1) := by decide +kernel
theorem dX3_add_22 : decode cX3_add 22 = .ok (.getfield 15, 3) := by decide +kernel
theorem dX3_add_25 : decode cX3_add 25 = .ok (.aload_n 0, 1) := by decide +kernel
theorem dX3_add_26 : decode cX3_add 26 = .ok (.getfield 18, 3) := by decide +kernel
theorem dX3_add_29 : decode cX3_add 29 = .ok (.iload_n 2, 1) := by decide +kernel
theorem dX3_add_30 : decode cX3_add 30 = .ok (.iastore, 1) := by decide +kernel
theorem dX3_add_31 : decode cX3_add 31 = .ok (.aload_n 0, 1) := by decide +kernel
theorem dX3_add_32 : decode cX3_add 32 = .ok (.dup, 1) := by decide +kernel
theorem dX3_add_33 : decode cX3_add 33 = .ok (.getfield 18, 3) := by decide +kernel
theorem dX3_add_36 : decode cX3_add 36 = .ok (.iconst 1, 1) := by decide +kernel
theorem dX3_add_37 : decode cX3_add 37 = .ok (.iadd, 1) := by decide +kernel
theorem dX3_add_38 : decode cX3_add 38 = .ok (.putfield 18, 3) := by decide +kernel
theorem dX3_add_41 : decode cX3_add 41 = .ok (.iconst 1, 1) := by decide +kernel
theorem dX3_add_42 : decode cX3_add 42 = .ok (.ireturn, 1) := by decide +kernel
theorem dX3_isSo_0 : decode cX3_isSo 0 = .ok (.iconst 0, 1) := by decide +kernel
theorem dX3_isSo_1 : decode cX3_isSo 1 = .ok (.istore_n 2, 1) := by decide +kernel
theorem dX3_isSo_2 : decode cX3_isSo 2 = .ok (.iload_n 2, 1) := by decide +kernel
theorem dX3_isSo_3 : decode cX3_isSo 3 = .ok (.aload_n 0, 1) := by decide +kernel
theorem dX3_isSo_4 : decode cX3_isSo 4 = .ok (.getfield 18, 3) := by decide +kernel
theorem dX3_isSo_7 : decode cX3_isSo 7 = .ok (.if_icmp .ge 31, 3) := by decide +kernel
theorem dX3_isSo_10 : decode cX3_isSo 10 = .ok (.aload_n 1, 1) := by decide +kernel
theorem dX3_isSo_11 : decode cX3_isSo 11 = .ok (.getfield 22, 3) := by decide +kernel
theorem dX3_isSo_14 : decode cX3_isSo 14 = .ok (.aload_n 0, 1) := by decide +kernel
theorem dX3_isSo_15 : decode cX3_isSo 15 = .ok (.getfield 9, 3) := by decide +kernel
theorem dX3_isSo_18 : decode cX3_isSo 18 = .ok (.iload_n 2, 1) := by decide +kernel
theorem dX3_isSo_19 : decode cX3_isSo 19 = .ok (.iaload, 1) := by decide +kernel
theorem dX3_isSo_20 : decode cX3_isSo 20 = .ok (.iaload, 1) := by decide +kernel
theorem dX3_isSo_21 : decode cX3_isSo 21 = .ok (.aload_n 0, 1) := by decide +kernel
theorem dX3_isSo_22 : decode cX3_isSo 22 = .ok (.getfield 15, 3) := by decide +kernel
theorem dX3_isSo_25 : decode cX3_isSo 25 = .ok (.iload_n 2, 1) := by decide +kernel
theorem dX3_isSo_26 : decode cX3_isSo 26 = .ok (.iaload, 1) := by decide +kernel
theorem dX3_isSo_27 : decode cX3_isSo 27 = .ok (.if_icmp .eq 5, 3) := by decide +kernel
theorem dX3_isSo_30 : decode cX3_isSo 30 = .ok (.iconst 0, 1) := by decide +kernel
theorem dX3_isSo_31 : decode cX3_isSo 31 = .ok (.ireturn, 1) := by decide +kernel
theorem dX3_isSo_32 : decode cX3_isSo 32 = .ok (.iinc 2 1, 3) := by decide +kernel
theorem dX3_isSo_35 : decode cX3_isSo 35 = .ok (.goto (-33), 3) := by decide +kernel
theorem dX3_isSo_38 : decode cX3_isSo 38 = .ok (.iconst 1, 1) := by decide +kernel
theorem dX3_isSo_39 : decode cX3_isSo 39 = .ok (.ireturn, 1) := by decide +kernel
theorem dX4_init_0 : decode cX4_init 0 = .ok (.aload_n 0, 1) := by decide +kernel
theorem dX4_init_1 : decode cX4_init 1 = .ok (.invokespecial 3, 3) := by decide +kernel
theorem dX4_init_4 : decode cX4_init 4 = .ok (.aload_n 0, 1) := by decide +kernel
theorem dX4_init_5 : decode cX4_init 5 = .ok (.iconst 2, 1) := by decide +kernel
theorem dX4_init_6 : decode cX4_init 6 = .ok (.anewarray 9, 3) := by decide +kernel
theorem dX4_init_9 : decode cX4_init 9 = .ok (.putfield 11, 3) := by decide +kernel
theorem dX4_init_12 : decode cX4_init 12 = .ok (.iconst 0, 1) := by decide +kernel
theorem dX4_init_13 : decode cX4_init 13 = .ok (.istore_n 1, 1) := by decide +kernel
theorem dX4_init_14 : decode cX4_init 14 = .ok (.iload_n 1, 1) := by decide +kernel
theorem dX4_init_15 : decode cX4_init 15 = .ok (.iconst 2, 1) := by decide +kernel
theorem dX4_init_16 : decode cX4_init 16 = .ok (.if_icmp .ge 22, 3) := by decide +kernel
theorem dX4_init_19 : decode cX4_init 19 = .ok (.aload_n 0, 1) := by decide +kernel
theorem dX4_init_20 : decode cX4_init 20 = .ok (.getfield 11, 3) := by decide +kernel
theorem dX4_init_23 : decode cX4_init 23 = .ok (.iload_n 1, 1) := by decide +kernel
theorem dX4_init_24 : decode cX4_init 24 = .ok (.new 9, 3) := by decide +kernel
theorem dX4_init_27 : decode cX4_init 27 = .ok (.dup, 1) := by decide +kernel
theorem dX4_init_28 : decode cX4_init 28 = .ok (.invokespecial 17, 3) := by decide +kernel
theorem dX4_init_31 : decode cX4_init 31 = .ok (.aastore, 1) := by decide +kernel
theorem dX4_init_32 : decode cX4_init 32 = .ok (.iinc 1 1, 3) := by decide +kernel
theorem dX4_init_35 : decode cX4_init 35 = .ok (.goto (-21), 3) := by decide +kernel
theorem dX4_init_38 : decode cX4_init 38 = .ok (.return_, 1) := by decide +kernel
theorem dX4_put_0 : decode cX4_put 0 = .ok (.aload_n 0, 1) := by decide +kernel
theorem dX4_put_1 : decode cX4_put 1 = .ok (.getfield 11, 3) := by decide +kernel
theorem dX4_put_4 : decode cX4_put 4 = .ok (.iload_n 1, 1) := by decide +kernel
theorem dX4_put_5 : decode cX4_put 5 = .ok (.aaload, 1) := by decide +kernel
theorem dX4_put_6 : decode cX4_put 6 = .ok (.aload_n 2, 1) := by decide +kernel
theorem dX4_put_7 : decode cX4_put 7 = .ok (.invokevirtual 18, 3) := by decide +kernel
theorem dX4_put_10 : decode cX4_put 10 = .ok (.aload_n 0, 1) := by decide +kernel
theorem dX4_put_11 : decode cX4_put 11 = .ok (.dup, 1) := by decide +kernel
theorem dX4_put_12 : decode cX4_put 12 = .ok (.getfield 22, 3) := by decide +kernel
theorem dX4_put_15 : decode cX4_put 15 = .ok (.iconst 1, 1) := by decide +kernel
theorem dX4_put_16 : decode cX4_put 16 = .ok (.iload_n 1, 1) := by decide +kernel
theorem dX4_put_17 : decode cX4_put 17 = .ok (.ishl, 1) := by decide +kernel
theorem dX4_put_18 : decode cX4_put 18 = .ok (.ior, 1) := by decide +kernel
theorem dX4_put_19 : decode cX4_put 19 = .ok (.putfield 22, 3) := by decide +kernel
theorem dX4_put_22 : decode cX4_put 22 = .ok (.return_, 1) := by decide +kernel
theorem dX4_takeInto_0 : decode cX4_takeInto 0 = .ok (.aload_n 0, 1) := by decide +kernel
theorem dX4_takeInto_1 : decode cX4_takeInto 1 = .ok (.getfield 22, 3) := by decide +kernel
theorem dX4_takeInto_4 : decode cX4_takeInto 4 = .ok (.iload_n 1, 1) := by decide +kernel
theorem dX4_takeInto_5 : decode cX4_takeInto 5 = .ok (.ishr, 1) := by decide +kernel
theorem dX4_takeInto_6 : decode cX4_takeInto 6 = .ok (.iconst 1, 1) := by decide +kernel
theorem dX4_takeInto_7 : decode cX4_takeInto 7 = .ok (.iand, 1) := by decide +kernel
theorem dX4_takeInto_8 : decode cX4_takeInto 8 = .ok (.ifCond .ne 5, 3) := by decide +kernel
theorem dX4_takeInto_11 : decode cX4_takeInto 11 = .ok (.iconst 0, 1) := by decide +kernel
theorem dX4_takeInto_12 : decode cX4_takeInto 12 = .ok (.ireturn, 1) := by decide +kernel
theorem dX4_takeInto_13 : decode cX4_takeInto 13 = .ok (.aload_n 2, 1) := by decide +kernel
theorem dX4_takeInto_14 : decode cX4_takeInto 14 = .ok (.aload_n 0, 1) := by decide +kernel
theorem dX4_takeInto_15 : decode cX4_takeInto 15 = .ok (.getfield 11, 3) := by decide +kernel
theorem dX4_takeInto_18 : decode cX4_takeInto 18 = .ok (.iload_n 1, 1) := by decide +kernel
theorem dX4_takeInto_19 : decode cX4_takeInto 19 = .ok (.aaload, 1) := by decide +kernel
theorem dX4_takeInto_20 : decode cX4_takeInto 20 = .ok (.invokevirtual 18, 3) := by decide +kernel
theorem dX4_takeInto_23 : decode cX4_takeInto 23 = .ok (.iconst 1, 1) := by decide +kernel
theorem dX4_takeInto_24 : decode cX4_takeInto 24 = .ok (.ireturn, 1) := by decide +kernel
theorem dX4_forgetAll_0 : decode cX4_forgetAll 0 = .ok (.aload_n 0, 1) := by decide +kernel
theorem dX4_forgetAll_1 : decode cX4_forgetAll 1 = .ok (.iconst 0, 1) := by decide +kernel
theorem dX4_forgetAll_2 : decode cX4_forgetAll 2 = .ok (.putfield 22, 3) := by decide +kernel
theorem dX4_forgetAll_5 : decode cX4_forgetAll 5 = .ok (.return_, 1) := by decide +kernel
theorem dX5_init_0 : decode cX5_init 0 = .ok (.aload_n 0, 1) := by decide +kernel
theorem dX5_init_1 : decode cX5_init 1 = .ok (.invokespecial 3, 3) := by decide +kernel
theorem dX5_init_4 : decode cX5_init 4 = .ok (.aload_n 0, 1) := by decide +kernel
theorem dX5_init_5 : decode cX5_init 5 = .ok (.iconst 1, 1) := by decide +kernel
theorem dX5_init_6 : decode cX5_init 6 = .ok (.putfield 9, 3) := by decide +kernel
theorem dX5_init_9 : decode cX5_init 9 = .ok (.aload_n 0, 1) := by decide +kernel
theorem dX5_init_10 : decode cX5_init 10 = .ok (.iconst 1, 1) := by decide +kernel
theorem dX5_init_11 : decode cX5_init 11 = .ok (.putfield 15, 3) := by decide +kernel
theorem dX5_init_14 : decode cX5_init 14 = .ok (.aload_n 0, 1) := by decide +kernel
theorem dX5_init_15 : decode cX5_init 15 = .ok (.iconst 1, 1) := by decide +kernel
theorem dX5_init_16 : decode cX5_init 16 = .ok (.putfield 18, 3) := by decide +kernel
theorem dX5_init_19 : decode cX5_init 19 = .ok (.aload_n 0, 1) := by decide +kernel
theorem dX5_init_20 : decode cX5_init 20 = .ok (.bipush 20, 2) := by decide +kernel
theorem dX5_init_22 : decode cX5_init 22 = .ok (.newarray .int, 2) := by decide +kernel
theorem dX5_init_24 : decode cX5_init 24 = .ok (.putfield 21, 3) := by decide +kernel
theorem dX5_init_27 : decode cX5_init 27 = .ok (.aload_n 0, 1) := by decide +kernel
theorem dX5_init_28 : decode cX5_init 28 = .ok (.bipush 20, 2) := by decide +kernel
theorem dX5_init_30 : decode cX5_init 30 = .ok (.newarray .int, 2) := by decide +kernel
theorem dX5_init_32 : decode cX5_init 32 = .ok (.putfield 25, 3) := by decide +kernel
theorem dX5_init_35 : decode cX5_init 35 = .ok (.aload_n 0, 1) := by decide +kernel
theorem dX5_init_36 : decode cX5_init 36 = .ok (.bipush 16, 2) := by decide +kernel
theorem dX5_init_38 : decode cX5_init 38 = .ok (.newarray .int, 2) := by decide +kernel
theorem dX5_init_40 : decode cX5_init 40 = .ok (.putfield 28, 3) := by decide +kernel
theorem dX5_init_43 : decode cX5_init 43 = .ok (.return_, 1) := by decide +kernel
theorem dX5_renew_0 : decode cX5_renew 0 = .ok (.aload_n 0, 1) := by decide +kernel
theorem dX5_renew_1 : decode cX5_renew 1 = .ok (.iconst 1, 1) := by decide +kernel
theorem dX5_renew_2 : decode cX5_renew 2 = .ok (.putfield 9, 3) := by decide +kernel
theorem dX5_renew_5 : decode cX5_renew 5 = .ok (.aload_n 0, 1) := by decide +kernel
theorem dX5_renew_6 : decode cX5_renew 6 = .ok (.iconst 1, 1) := by decide +kernel
theorem dX5_renew_7 : decode cX5_renew 7 = .ok (.putfield 15, 3) := by decide +kernel
theorem dX5_renew_10 : decode cX5_renew 10 = .ok (.aload_n 0, 1) := by decide +kernel
theorem dX5_renew_11 : decode cX5_renew 11 = .ok (.iconst 0, 1) := by decide +kernel
theorem dX5_renew_12 : decode cX5_renew 12 = .ok (.putfield 31, 3) := by decide +kernel
theorem dX5_renew_15 : decode cX5_renew 15 = .ok (.aload_n 0, 1) := by decide +kernel
theorem dX5_renew_16 : decode cX5_renew 16 = .ok (.iconst 1, 1) := by decide +kernel
theorem dX5_renew_17 : decode cX5_renew 17 = .ok (.putfield 18, 3) := by decide +kernel
theorem dX5_renew_20 : decode cX5_renew 20 = .ok (.aload_n 0, 1) := by decide +kernel
theorem dX5_renew_21 : decode cX5_renew 21 = .ok (.iconst 0, 1) := by decide +kernel
theorem dX5_renew_22 : decode cX5_renew 22 = .ok (.putfield 34, 3) := by decide +kernel
theorem dX5_renew_25 : decode cX5_renew 25 = .ok (.aload_n 0, 1) := by decide +kernel
theorem dX5_renew_26 : decode cX5_renew 26 = .ok (.getfield 28, 3) := by decide +kernel
theorem dX5_renew_29 : decode cX5_renew 29 = .ok (.iconst 0, 1) := by decide +kernel
theorem dX5_renew_30 : decode cX5_renew 30 = .ok (.invokestatic 37, 3) := by decide +kernel
theorem dX5_renew_33 : decode cX5_renew 33 = .ok (.return_, 1) := by decide +kernel
theorem dX5_copy_0 : decode cX5_copy 0 = .ok (.aload_n 0, 1) := by decide +kernel
theorem dX5_copy_1 : decode cX5_copy 1 = .ok (.aload_n 1, 1) := by decide +kernel
theorem dX5_copy_2 : decode cX5_copy 2 = .ok (.getfield 9, 3) := by decide +kernel
theorem dX5_copy_5 : decode cX5_copy 5 = .ok (.putfield 9, 3) := by decide +kernel
theorem dX5_copy_8 : decode cX5_copy 8 = .ok (.aload_n 0, 1) := by decide +kernel
theorem dX5_copy_9 : decode cX5_copy 9 = .ok (.aload_n 1, 1) := by decide +kernel
theorem dX5_copy_10 : decode cX5_copy 10 = .ok (.getfield 15, 3) := by decide +kernel
theorem dX5_copy_13 : decode cX5_copy 13 = .ok (.putfield 15, 3) := by decide +kernel
theorem dX5_copy_16 : decode cX5_copy 16 = .ok (.aload_n 0, 1) := by decide +kernel
theorem dX5_copy_17 : decode cX5_copy 17 = .ok (.aload_n 1, 1) := by decide +kernel
theorem dX5_copy_18 : decode cX5_copy 18 = .ok (.getfield 31, 3) := by decide +kernel
theorem dX5_copy_21 : decode cX5_copy 21 = .ok (.putfield 31, 3) := by decide +kernel
theorem dX5_copy_24 : decode cX5_copy 24 = .ok (.aload_n 0, 1) := by decide +kernel
theorem dX5_copy_25 : decode cX5_copy 25 = .ok (.aload_n 1, 1) := by decide +kernel
theorem dX5_copy_26 : decode cX5_copy 26 = .ok (.getfield 18, 3) := by decide +kernel
theorem dX5_copy_29 : decode cX5_copy 29 = .ok (.putfield 18, 3) := by decide +kernel
theorem dX5_copy_32 : decode cX5_copy 32 = .ok (.aload_n 0, 1) := by decide +kernel
theorem dX5_copy_33 : decode cX5_copy 33 = .ok (.aload_n 1, 1) := by decide +kernel
theorem dX5_copy_34 : decode cX5_copy 34 = .ok (.getfield 34, 3) := by decide +kernel
theorem dX5_copy_37 : decode cX5_copy 37 = .ok (.putfield 34, 3) := by decide +kernel
theorem dX5_copy_40 : decode cX5_copy 40 = .ok (.aload_n 1, 1) := by decide +kernel
theorem dX5_copy_41 : decode cX5_copy 41 = .ok (.getfield 21, 3) := by decide +kernel
theorem dX5_copy_44 : decode cX5_copy 44 = .ok (.iconst 0, 1) := by decide +kernel
theorem dX5_copy_45 : decode cX5_copy 45 = .ok (.aload_n 0, 1) := by decide +kernel
theorem dX5_copy_46 : decode cX5_copy 46 = .ok (.getfield 21, 3) := by decide +kernel
theorem dX5_copy_49 : decode cX5_copy 49 = .ok (.iconst 0, 1) := by decide +kernel
theorem dX5_copy_50 : decode cX5_copy 50 = .ok (.bipush 20, 2) := by decide +kernel
theorem dX5_copy_52 : decode cX5_copy 52 = .ok (.invokestatic 43, 3) := by decide +kernel
theorem dX5_copy_55 : decode cX5_copy 55 = .ok (.aload_n 1, 1) := by decide +kernel
theorem dX5_copy_56 : decode cX5_copy 56 = .ok (.getfield 25, 3) := by decide +kernel
theorem dX5_copy_59 : decode cX5_copy 59 = .ok (.iconst 0, 1) := by decide +kernel
theorem dX5_copy_60 : decode cX5_copy 60 = .ok (.aload_n 0, 1) := by decide +kernel
theorem dX5_copy_61 : decode cX5_copy 61 = .ok (.getfield 25, 3) := by decide +kernel
theorem dX5_copy_64 : decode cX5_copy 64 = .ok (.iconst 0, 1) := by decide +kernel
theorem dX5_copy_65 : decode cX5_copy 65 = .ok (.bipush 20, 2) := by decide +kernel
theorem dX5_copy_67 : decode cX5_copy 67 = .ok (.invokestatic 43, 3) := by decide +kernel
theorem dX5_copy_70 : decode cX5_copy 70 = .ok (.aload_n 1, 1) := by decide +kernel
theorem dX5_copy_71 : decode cX5_copy 71 = .ok (.getfield 28, 3) := by decide +kernel
theorem dX5_copy_74 : decode cX5_copy 74 = .ok (.iconst 0, 1) := by decide +kernel
theorem dX5_copy_75 : decode cX5_copy 75 = .ok (.aload_n 0, 1) := by decide +kernel
theorem dX5_copy_76 : decode cX5_copy 76 = .ok (.getfield 28, 3) := by decide +kernel
theorem dX5_copy_79 : decode cX5_copy 79 = .ok (.iconst 0, 1) := by decide +kernel
theorem dX5_copy_80 : decode cX5_copy 80 = .ok (.bipush 16, 2) := by decide +kernel
theorem dX5_copy_82 : decode cX5_copy 82 = .ok (.invokestatic 43, 3) := by decide +kernel
theorem dX5_copy_85 : decode cX5_copy 85 = .ok (.return_, 1) := by decide +kernel
theorem dX5_tellRows_0 : decode cX5_tellRows 0 = .ok (.iload_n 1, 1) := by decide +kernel
theorem dX5_tellRows_1 : decode cX5_tellRows 1 = .ok (.iconst 1, 1) := by decide +kernel
theorem dX5_tellRows_2 : decode cX5_tellRows 2 = .ok (.if_icmp .lt 9, 3) := by decide +kernel
theorem dX5_tellRows_5 : decode cX5_tellRows 5 = .ok (.iload_n 1, 1) := by decide +kernel
theorem dX5_tellRows_6 : decode cX5_tellRows 6 = .ok (.bipush 6, 2) := by decide +kernel
theorem dX5_tellRows_8 : decode cX5_tellRows 8 = .ok (.if_icmp .le 5, 3) := by decide +kernel
theorem dX5_tellRows_11 : decode cX5_tellRows 11 = .ok (.iconst 0, 1) := by decide +kernel
theorem dX5_tellRows_12 : decode cX5_tellRows 12 = .ok (.ireturn, 1) := by decide +kernel
theorem dX5_tellRows_13 : decode cX5_tellRows 13 = .ok (.aload_n 0, 1) := by decide +kernel
theorem dX5_tellRows_14 : decode cX5_tellRows 14 = .ok (.iload_n 1, 1) := by decide +kernel
theorem dX5_tellRows_15 : decode cX5_tellRows 15 = .ok (.putfield 9, 3) := by decide +kernel
theorem dX5_tellRows_18 : decode cX5_tellRows 18 = .ok (.iconst 1, 1) := by decide +kernel
theorem dX5_tellRows_19 : decode cX5_tellRows 19 = .ok (.ireturn, 1) := by decide +kernel
theorem dX5_tellColumns_0 : decode cX5_tellColumns 0 = .ok (.iload_n 1, 1) := by decide +kernel
theorem dX5_tellColumns_1 : decode cX5_tellColumns 1 = .ok (.iconst 1, 1) := by decide +kernel
theorem dX5_tellColumns_2 : decode cX5_tellColumns 2 = .ok (.if_icmp .lt 9, 3) := by decide +kernel
theorem dX5_tellColumns_5 : decode cX5_tellColumns 5 = .ok (.iload_n 1, 1) := by decide +kernel
theorem dX5_tellColumns_6 : decode cX5_tellColumns 6 = .ok (.bipush 6, 2) := by decide +kernel
theorem dX5_tellColumns_8 : decode cX5_tellColumns 8 = .ok (.if_icmp .le 5, 3) := by decide +kernel
theorem dX5_tellColumns_11 : decode cX5_tellColumns 11 = .ok (.iconst 0, 1) := by decide +kernel
theorem dX5_tellColumns_12 : decode cX5_tellColumns 12 = .ok (.ireturn, 1) := by decide +kernel
theorem dX5_tellColumns_13 : decode cX5_tellColumns 13 = .ok (.aload_n 0, 1) := by decide +kernel
theorem dX5_tellColumns_14 : decode cX5_tellColumns 14 = .ok (.iload_n 1, 1) := by decide +kernel
theorem dX5_tellColumns_15 : decode cX5_tellColumns 15 = .ok (.putfield 15, 3) := by decide +kernel
theorem dX5_tellColumns_18 : decode cX5_tellColumns 18 = .ok (.iconst 1, 1) := by decide +kernel
theorem dX5_tellColumns_19 : decode cX5_tellColumns 19 = .ok (.ireturn, 1) := by decide +kernel
theorem dX5_hasRoom_0 : decode cX5_hasRoom 0 = .ok (.aload_n 0, 1) := by decide +kernel
theorem dX5_hasRoom_1 : decode cX5_hasRoom 1 = .ok (.getfield 31, 3) := by decide +kernel
theorem dX5_hasRoom_4 : decode cX5_hasRoom 4 = .ok (.bipush 20, 2) := by decide +kernel
theorem dX5_hasRoom_6 : decode cX5_hasRoom 6 = .ok (.if_icmp .ge 23, 3) := by decide +kernel
theorem dX5_hasRoom_9 : decode cX5_hasRoom 9 = .ok (.aload_n 0, 1) := by decide +kernel
theorem dX5_hasRoom_10 : decode cX5_hasRoom 10 = .ok (.getfield 31, 3) := by decide +kernel
theorem dX5_hasRoom_13 : decode cX5_hasRoom 13 = .ok (.aload_n 0, 1) := by decide +kernel
theorem dX5_hasRoom_14 : decode cX5_hasRoom 14 = .ok (.getfield 9, 3) := by decide +kernel
theorem dX5_hasRoom_17 : decode cX5_hasRoom 17 = .ok (.aload_n 0, 1) := by decide +kernel
theorem dX5_hasRoom_18 : decode cX5_hasRoom 18 = .ok (.getfield 15, 3) := by decide +kernel
theorem dX5_hasRoom_21 : decode cX5_hasRoom 21 = .ok (.imul, 1) := by decide +kernel
theorem dX5_hasRoom_22 : decode cX5_hasRoom 22 = .ok (.if_icmp .ge 7, 3) := by decide +kernel
theorem dX5_hasRoom_25 : decode cX5_hasRoom 25 = .ok (.iconst 1, 1) := by decide +kernel
theorem dX5_hasRoom_26 : decode cX5_hasRoom 26 = .ok (.goto 4, 3) := by decide +kernel
theorem dX5_hasRoom_29 : decode cX5_hasRoom 29 = .ok (.iconst 0, 1) := by decide +kernel
theorem dX5_hasRoom_30 : decode cX5_hasRoom 30 = .ok (.ireturn, 1) := by decide +kernel
theorem dX5_tellRow_0 : decode cX5_tellRow 0 = .ok (.iload_n 1, 1) := by decide +kernel
theorem dX5_tellRow_1 : decode cX5_tellRow 1 = .ok (.ifCond .lt 30, 3) := by decide +kernel
theorem dX5_tellRow_4 : decode cX5_tellRow 4 = .ok (.iload_n 1, 1) := by decide +kernel
theorem dX5_tellRow_5 : decode cX5_tellRow 5 = .ok (.aload_n 0, 1) := by decide +kernel
theorem dX5_tellRow_6 : decode cX5_tellRow 6 = .ok (.getfield 9, 3) := by decide +kernel
theorem dX5_tellRow_9 : decode cX5_tellRow 9 = .ok (.if_icmp .ge 22, 3) := by decide +kernel
theorem dX5_tellRow_12 : decode cX5_tellRow 12 = .ok (.aload_n 0, 1) := by decide +kernel
theorem dX5_tellRow_13 : decode cX5_tellRow 13 = .ok (.invokevirtual 49, 3) := by decide +kernel
theorem dX5_tellRow_16 : decode cX5_tellRow 16 = .ok (.ifCond .eq 15, 3) := by decide +kernel
theorem dX5_tellRow_19 : decode cX5_tellRow 19 = .ok (.aload_n 0, 1) := by decide +kernel
theorem dX5_tellRow_20 : decode cX5_tellRow 20 = .ok (.iload_n 1, 1) := by decide +kernel
theorem dX5_tellRow_21 : decode cX5_tellRow 21 = .ok (.invokevirtual 53, 3) := by decide +kernel
theorem dX5_tellRow_24 : decode cX5_tellRow 24 = .ok (.aload_n 0, 1) := by decide +kernel
theorem dX5_tellRow_25 : decode cX5_tellRow 25 = .ok (.getfield 15, 3) := by decide +kernel
theorem dX5_tellRow_28 : decode cX5_tellRow 28 = .ok (.if_icmp .lt 5, 3) := by decide +kernel
theorem dX5_tellRow_31 : decode cX5_tellRow 31 = .ok (.iconst 0, 1) := by decide +kernel
theorem dX5_tellRow_32 : decode cX5_tellRow 32 = .ok (.ireturn, 1) := by decide +kernel
theorem dX5_tellRow_33 : decode cX5_tellRow 33 = .ok (.aload_n 0, 1) := by decide +kernel
theorem dX5_tellRow_34 : decode cX5_tellRow 34 = .ok (.getfield 21, 3) := by decide +kernel
theorem dX5_tellRow_37 : decode cX5_tellRow 37 = .ok (.aload_n 0, 1) := by decide +kernel
theorem dX5_tellRow_38 : decode cX5_tellRow 38 = .ok (.getfield 31, 3) := by decide +kernel
theorem dX5_tellRow_41 : decode cX5_tellRow 41 = .ok (.iload_n 1, 1) := by decide +kernel
theorem dX5_tellRow_42 : decode cX5_tellRow 42 = .ok (.iastore, 1) := by decide +kernel
theorem dX5_tellRow_43 : decode cX5_tellRow 43 = .ok (.iconst 1, 1) := by decide +kernel
theorem dX5_tellRow_44 : decode cX5_tellRow 44 = .ok (.ireturn, 1) := by decide +kernel
theorem dX5_tellColumn_0 : decode cX5_tellColumn 0 = .ok (.iload_n 1, 1) := by decide +kernel
theorem dX5_tellColumn_1 : decode cX5_tellColumn 1 = .ok (.ifCond .lt 37, 3) := by decide +kernel
theorem dX5_tellColumn_4 : decode cX5_tellColumn 4 = .ok (.iload_n 1, 1) := by decide +kernel
theorem dX5_tellColumn_5 : decode cX5_tellColumn 5 = .ok (.aload_n 0, 1) := by decide +kernel
theorem dX5_tellColumn_6 : decode cX5_tellColumn 6 = .ok (.getfield 15, 3) := by decide +kernel
theorem dX5_tellColumn_9 : decode cX5_tellColumn 9 = .ok (.if_icmp .ge 29, 3) := by decide +kernel
theorem dX5_tellColumn_12 : decode cX5_tellColumn 12 = .ok (.aload_n 0, 1) := by decide +kernel
theorem dX5_tellColumn_13 : decode cX5_tellColumn 13 = .ok (.invokevirtual 49, 3) := by decide +kernel
theorem dX5_tellColumn_16 : decode cX5_tellColumn 16 = .ok (.ifCond .eq 22, 3) := by decide +kernel
theorem dX5_tellColumn_19 : decode cX5_tellColumn 19 = .ok (.aload_n 0, 1) := by decide +kernel
theorem dX5_tellColumn_20 : decode cX5_tellColumn 20 = .ok (.aload_n 0, 1) := by decide +kernel
theorem dX5_tellColumn_21 : decode cX5_tellColumn 21 = .ok (.getfield 21, 3) := by decide +kernel
theorem dX5_tellColumn_24 : decode cX5_tellColumn 24 = .ok (.aload_n 0, 1) := by decide +kernel
theorem dX5_tellColumn_25 : decode cX5_tellColumn 25 = .ok (.getfield 31, 3) := by decide +kernel
theorem dX5_tellColumn_28 : decode cX5_tellColumn 28 = .ok (.iaload, 1) := by decide +kernel
theorem dX5_tellColumn_29 : decode cX5_tellColumn 29 = .ok (.iload_n 1, 1) := by decide +kernel
theorem dX5_tellColumn_30 : decode cX5_tellColumn 30 = .ok (.invokevirtual 57, 3) := by decide +kernel
theorem dX5_tellColumn_33 : decode cX5_tellColumn 33 = .ok (.bipush (-9), 2) := by decide +kernel
theorem dX5_tellColumn_35 : decode cX5_tellColumn 35 = .ok (.if_icmp .eq 5, 3) := by decide +kernel
theorem dX5_tellColumn_38 : decode cX5_tellColumn 38 = .ok (.iconst 0, 1) := by decide +kernel
theorem dX5_tellColumn_39 : decode cX5_tellColumn 39 = .ok (.ireturn, 1) := by decide +kernel
theorem dX5_tellColumn_40 : decode cX5_tellColumn 40 = .ok (.aload_n 0, 1) := by decide +kernel
theorem dX5_tellColumn_41 : decode cX5_tellColumn 41 = .ok (.getfield 25, 3) := by decide +kernel
theorem dX5_tellColumn_44 : decode cX5_tellColumn 44 = .ok (.aload_n 0, 1) := by decide +kernel
theorem dX5_tellColumn_45 : decode cX5_tellColumn 45 = .ok (.getfield 31, 3) := by decide +kernel
theorem dX5_tellColumn_48 : decode cX5_tellColumn 48 = .ok (.iload_n 1, 1) := by decide +kernel
theorem dX5_tellColumn_49 : decode cX5_tellColumn 49 = .ok (.iastore, 1) := by decide +kernel
theorem dX5_tellColumn_50 : decode cX5_tellColumn 50 = .ok (.aload_n 0, 1) := by decide +kernel
theorem dX5_tellColumn_51 : decode cX5_tellColumn 51 = .ok (.dup, 1) := by decide +kernel
theorem dX5_tellColumn_52 : decode cX5_tellColumn 52 = .ok (.getfield 31, 3) := by decide +kernel
theorem dX5_tellColumn_55 : decode cX5_tellColumn 55 = .ok (.iconst 1, 1) := by decide +kernel
theorem dX5_tellColumn_56 : decode cX5_tellColumn 56 = .ok (.iadd, 1) := by decide +kernel
theorem dX5_tellColumn_57 : decode cX5_tellColumn 57 = .ok (.putfield 31, 3) := by decide +kernel
theorem dX5_tellColumn_60 : decode cX5_tellColumn 60 = .ok (.iconst 1, 1) := by decide +kernel
theorem dX5_tellColumn_61 : decode cX5_tellColumn 61 = .ok (.ireturn, 1) := by decide +kernel
theorem dX5_hasShade_0 : decode cX5_hasShade 0 = .ok (.iload_n 1, 1) := by decide +kernel
theorem dX5_hasShade_1 : decode cX5_hasShade 1 = .ok (.ifCond .lt 15, 3) := by decide +kernel
theorem dX5_hasShade_4 : decode cX5_hasShade 4 = .ok (.iload_n 1, 1) := by decide +kernel
theorem dX5_hasShade_5 : decode cX5_hasShade 5 = .ok (.aload_n 0, 1) := by decide +kernel
theorem dX5_hasShade_6 : decode cX5_hasShade 6 = .ok (.getfield 31, 3) := by decide +kernel
theorem dX5_hasShade_9 : decode cX5_hasShade 9 = .ok (.if_icmp .ge 7, 3) := by decide +kernel
theorem dX5_hasShade_12 : decode cX5_hasShade 12 = .ok (.iconst 1, 1) := by decide +kernel
theorem dX5_hasShade_13 : decode cX5_hasShade 13 = .ok (.goto 4, 3) := by decide +kernel
theorem dX5_hasShade_16 : decode cX5_hasShade 16 = .ok (.iconst 0, 1) := by decide +kernel
theorem dX5_hasShade_17 : decode cX5_hasShade 17 = .ok (.ireturn, 1) := by decide +kernel
theorem dX5_hasCell_0 : decode cX5_hasCell 0 = .ok (.iload_n 1, 1) := by decide +kernel
theorem dX5_hasCell_1 : decode cX5_hasCell 1 = .ok (.ifCond .lt 27, 3) := by decide +kernel
theorem dX5_hasCell_4 : decode cX5_hasCell 4 = .ok (.iload_n 1, 1) := by decide +kernel
theorem dX5_hasCell_5 : decode cX5_hasCell 5 = .ok (.aload_n 0, 1) := by decide +kernel
theorem dX5_hasCell_6 : decode cX5_hasCell 6 = .ok (.getfield 9, 3) := by decide +kernel
theorem dX5_hasCell_9 : decode cX5_hasCell 9 = .ok (.if_icmp .ge 19, 3) := by decide +kernel
theorem dX5_hasCell_12 : decode cX5_hasCell 12 = .ok (.iload_n 2, 1) := by decide +kernel
theorem dX5_hasCell_13 : decode cX5_hasCell 13 = .ok (.ifCond .lt 15, 3) := by decide +kernel
theorem dX5_hasCell_16 : decode cX5_hasCell 16 = .ok (.iload_n 2, 1) := by decide +kernel
theorem dX5_hasCell_17 : decode cX5_hasCell 17 = .ok (.aload_n 0, 1) := by decide +kernel
theorem dX5_hasCell_18 : decode cX5_hasCell 18 = .ok (.getfield 15, 3) := by decide +kernel
theorem dX5_hasCell_21 : decode cX5_hasCell 21 = .ok (.if_icmp .ge 7, 3) := by decide +kernel
theorem dX5_hasCell_24 : decode cX5_hasCell 24 = .ok (.iconst 1, 1) := by decide +kernel
theorem dX5_hasCell_25 : decode cX5_hasCell 25 = .ok (.goto 4, 3) := by decide +kernel
theorem dX5_hasCell_28 : decode cX5_hasCell 28 = .ok (.iconst 0, 1) := by decide +kernel
theorem dX5_hasCell_29 : decode cX5_hasCell 29 = .ok (.ireturn, 1) := by decide +kernel
theorem dX5_numbersOf_0 : decode cX5_numbersOf 0 = .ok (.iload_n 1, 1) := by decide +kernel
theorem dX5_numbersOf_1 : decode cX5_numbersOf 1 = .ok (.ifCond .ne 10, 3) := by decide +kernel
theorem dX5_numbersOf_4 : decode cX5_numbersOf 4 = .ok (.aload_n 0, 1) := by decide +kernel
theorem dX5_numbersOf_5 : decode cX5_numbersOf 5 = .ok (.getfield 9, 3) := by decide +kernel
theorem dX5_numbersOf_8 : decode cX5_numbersOf 8 = .ok (.goto 7, 3) := by decide +kernel
theorem dX5_numbersOf_11 : decode cX5_numbersOf 11 = .ok (.aload_n 0, 1) := by decide +kernel
theorem dX5_numbersOf_12 : decode cX5_numbersOf 12 = .ok (.getfield 15, 3) := by decide +kernel
theorem dX5_numbersOf_15 : decode cX5_numbersOf 15 = .ok (.ireturn, 1) := by decide +kernel
theorem dX5_shadeIn_0 : decode cX5_shadeIn 0 = .ok (.iconst 0, 1) := by decide +kernel
theorem dX5_shadeIn_1 : decode cX5_shadeIn 1 = .ok (.istore_n 3, 1) := by decide +kernel
theorem dX5_shadeIn_2 : decode cX5_shadeIn 2 = .ok (.iload_n 3, 1) := by decide +kernel
theorem dX5_shadeIn_3 : decode cX5_shadeIn 3 = .ok (.aload_n 0, 1) := by decide +kernel
theorem dX5_shadeIn_4 : decode cX5_shadeIn 4 = .ok (.getfield 31, 3) := by decide +kernel
theorem dX5_shadeIn_7 : decode cX5_shadeIn 7 = .ok (.if_icmp .ge 31, 3) := by decide +kernel
theorem dX5_shadeIn_10 : decode cX5_shadeIn 10 = .ok (.aload_n 0, 1) := by decide +kernel
theorem dX5_shadeIn_11 : decode cX5_shadeIn 11 = .ok (.getfield 21, 3) := by decide +kernel
theorem dX5_shadeIn_14 : decode cX5_shadeIn 14 = .ok (.iload_n 3, 1) := by decide +kernel
theorem dX5_shadeIn_15 : decode cX5_shadeIn 15 = .ok (.iaload, 1) := by decide +kernel
theorem dX5_shadeIn_16 : decode cX5_shadeIn 16 = .ok (.iload_n 1, 1) := by decide +kernel
theorem dX5_shadeIn_17 : decode cX5_shadeIn 17 = .ok (.if_icmp .ne 15, 3) := by decide +kernel
theorem dX5_shadeIn_20 : decode cX5_shadeIn 20 = .ok (.aload_n 0, 1) := by decide +kernel
theorem dX5_shadeIn_21 : decode cX5_shadeIn 21 = .ok (.getfield 25, 3) := by decide +kernel
theorem dX5_shadeIn_24 : decode cX5_shadeIn 24 = .ok (.iload_n 3, 1) := by decide +kernel
theorem dX5_shadeIn_25 : decode cX5_shadeIn 25 = .ok (.iaload, 1) := by decide +kernel
theorem dX5_shadeIn_26 : decode cX5_shadeIn 26 = .ok (.iload_n 2, 1) := by decide +kernel
theorem dX5_shadeIn_27 : decode cX5_shadeIn 27 = .ok (.if_icmp .ne 5, 3) := by decide +kernel
theorem dX5_shadeIn_30 : decode cX5_shadeIn 30 = .ok (.iload_n 3, 1) := by decide +kernel
theorem dX5_shadeIn_31 : decode cX5_shadeIn 31 = .ok (.ireturn, 1) := by decide +kernel
theorem dX5_shadeIn_32 : decode cX5_shadeIn 32 = .ok (.iinc 3 1, 3) := by decide +kernel
theorem dX5_shadeIn_35 : decode cX5_shadeIn 35 = .ok (.goto (-33), 3) := by decide +kernel
theorem dX5_shadeIn_38 : decode cX5_shadeIn 38 = .ok (.bipush (-9), 2) := by decide +kernel
theorem dX5_shadeIn_40 : decode cX5_shadeIn 40 = .ok (.ireturn, 1) := by decide +kernel
theorem dX5_shadesInRow_0 : decode cX5_shadesInRow 0 = .ok (.iconst 0, 1) := by decide +kernel
theorem dX5_shadesInRow_1 : decode cX5_shadesInRow 1 = .ok (.istore_n 2, 1) := by decide +kernel
theorem dX5_shadesInRow_2 : decode cX5_shadesInRow 2 = .ok (.iconst 0, 1) := by decide +kernel
theorem dX5_shadesInRow_3 : decode cX5_shadesInRow 3 = .ok (.istore_n 3, 1) := by decide +kernel
theorem dX5_shadesInRow_4 : decode cX5_shadesInRow 4 = .ok (.iload_n 3, 1) := by decide +kernel
theorem dX5_shadesInRow_5 : decode cX5_shadesInRow 5 = .ok (.aload_n 0, 1) := by decide +kernel
theorem dX5_shadesInRow_6 : decode cX5_shadesInRow 6 = .ok (.getfield 31, 3) := by decide +kernel
theorem dX5_shadesInRow_9 : decode cX5_shadesInRow 9 = .ok (.if_icmp .ge 22, 3) := by decide +kernel
theorem dX5_shadesInRow_12 : decode cX5_shadesInRow 12 = .ok (.aload_n 0, 1) := by decide +kernel
theorem dX5_shadesInRow_13 : decode cX5_shadesInRow 13 = .ok (.getfield 21, 3) := by decide +kernel
theorem dX5_shadesInRow_16 : decode cX5_shadesInRow 16 = .ok (.iload_n 3, 1) := by decide +kernel
theorem dX5_shadesInRow_17 : decode cX5_shadesInRow 17 = .ok (.iaload, 1) := by decide +kernel
theorem dX5_shadesInRow_18 : decode cX5_shadesInRow 18 = .ok (.iload_n 1, 1) := by decide +kernel
theorem dX5_shadesInRow_19 : decode cX5_shadesInRow 19 = .ok (.if_icmp .ne 6, 3) := by decide +kernel
theorem dX5_shadesInRow_22 : decode cX5_shadesInRow 22 = .ok (.iinc 2 1, 3) := by decide +kernel
theorem dX5_shadesInRow_25 : decode cX5_shadesInRow 25 = .ok (.iinc 3 1, 3) := by decide +kernel
theorem dX5_shadesInRow_28 : decode cX5_shadesInRow 28 = .ok (.goto (-24), 3) := by decide +kernel
theorem dX5_shadesInRow_31 : decode cX5_shadesInRow 31 = .ok (.iload_n 2, 1) := by decide +kernel
theorem dX5_shadesInRow_32 : decode cX5_shadesInRow 32 = .ok (.ireturn, 1) := by decide +kernel
theorem dX5_timesPainted_0 : decode cX5_timesPainted 0 = .ok (.iconst 0, 1) := by decide +kernel
theorem dX5_timesPainted_1 : decode cX5_timesPainted 1 = .ok (.istore_n 2, 1) := by decide +kernel
theorem dX5_timesPainted_2 : decode cX5_timesPainted 2 = .ok (.iconst 0, 1) := by decide +kernel
theorem dX5_timesPainted_3 : decode cX5_timesPainted 3 = .ok (.istore_n 3, 1) := by decide +kernel
theorem dX5_timesPainted_4 : decode cX5_timesPainted 4 = .ok (.iload_n 3, 1) := by decide +kernel
theorem dX5_timesPainted_5 : decode cX5_timesPainted 5 = .ok (.bipush 16, 2) := by decide +kernel
theorem dX5_timesPainted_7 : decode cX5_timesPainted 7 = .ok (.if_icmp .ge 22, 3) := by decide +kernel
theorem dX5_timesPainted_10 : decode cX5_timesPainted 10 = .ok (.aload_n 0, 1) := by decide +kernel
theorem dX5_timesPainted_11 : decode cX5_timesPainted 11 = .ok (.getfield 28, 3) := by decide +kernel
theorem dX5_timesPainted_14 : decode cX5_timesPainted 14 = .ok (.iload_n 3, 1) := by decide +kernel
theorem dX5_timesPainted_15 : decode cX5_timesPainted 15 = .ok (.iaload, 1) := by decide +kernel
theorem dX5_timesPainted_16 : decode cX5_timesPainted 16 = .ok (.iload_n 1, 1) := by decide +kernel
theorem dX5_timesPainted_17 : decode cX5_timesPainted 17 = .ok (.if_icmp .ne 6, 3) := by decide +kernel
theorem dX5_timesPainted_20 : decode cX5_timesPainted 20 = .ok (.iinc 2 1, 3) := by decide +kernel
theorem dX5_timesPainted_23 : decode cX5_timesPainted 23 = .ok (.iinc 3 1, 3) := by decide +kernel
theorem dX5_timesPainted_26 : decode cX5_timesPainted 26 = .ok (.goto (-22), 3) := by decide +kernel
theorem dX5_timesPainted_29 : decode cX5_timesPainted 29 = .ok (.iload_n 2, 1) := by decide +kernel
theorem dX5_timesPainted_30 : decode cX5_timesPainted 30 = .ok (.ireturn, 1) := by decide +kernel
theorem dX5_put_0 : decode cX5_put 0 = .ok (.aload_n 0, 1) := by decide +kernel
theorem dX5_put_1 : decode cX5_put 1 = .ok (.iload_n 1, 1) := by decide +kernel
theorem dX5_put_2 : decode cX5_put 2 = .ok (.invokevirtual 61, 3) := by decide +kernel
theorem dX5_put_5 : decode cX5_put 5 = .ok (.ifCond .eq 17, 3) := by decide +kernel
theorem dX5_put_8 : decode cX5_put 8 = .ok (.aload_n 0, 1) := by decide +kernel
theorem dX5_put_9 : decode cX5_put 9 = .ok (.getfield 21, 3) := by decide +kernel
theorem dX5_put_12 : decode cX5_put 12 = .ok (.iload_n 1, 1) := by decide +kernel
theorem dX5_put_13 : decode cX5_put 13 = .ok (.iload_n 2, 1) := by decide +kernel
theorem dX5_put_14 : decode cX5_put 14 = .ok (.iastore, 1) := by decide +kernel
theorem dX5_put_15 : decode cX5_put 15 = .ok (.aload_n 0, 1) := by decide +kernel
theorem dX5_put_16 : decode cX5_put 16 = .ok (.getfield 25, 3) := by decide +kernel
theorem dX5_put_19 : decode cX5_put 19 = .ok (.iload_n 1, 1) := by decide +kernel
theorem dX5_put_20 : decode cX5_put 20 = .ok (.iload_n 3, 1) := by decide +kernel
theorem dX5_put_21 : decode cX5_put 21 = .ok (.iastore, 1) := by decide +kernel
theorem dX5_put_22 : decode cX5_put 22 = .ok (.return_, 1) := by decide +kernel
theorem dX5_swap_0 : decode cX5_swap 0 = .ok (.aload_n 0, 1) := by decide +kernel
theorem dX5_swap_1 : decode cX5_swap 1 = .ok (.iload_n 1, 1) := by decide +kernel
theorem dX5_swap_2 : decode cX5_swap 2 = .ok (.invokevirtual 61, 3) := by decide +kernel
theorem dX5_swap_5 : decode cX5_swap 5 = .ok (.ifCond .eq 51, 3) := by decide +kernel
theorem dX5_swap_8 : decode cX5_swap 8 = .ok (.aload_n 0, 1) := by decide +kernel
theorem dX5_swap_9 : decode cX5_swap 9 = .ok (.iload_n 2, 1) := by decide +kernel
theorem dX5_swap_10 : decode cX5_swap 10 = .ok (.invokevirtual 61, 3) := by decide +kernel
theorem dX5_swap_13 : decode cX5_swap 13 = .ok (.ifCond .eq 43, 3) := by decide +kernel
theorem dX5_swap_16 : decode cX5_swap 16 = .ok (.aload_n 0, 1) := by decide +kernel
theorem dX5_swap_17 : decode cX5_swap 17 = .ok (.getfield 21, 3) := by decide +kernel
theorem dX5_swap_20 : decode cX5_swap 20 = .ok (.iload_n 1, 1) := by decide +kernel
theorem dX5_swap_21 : decode cX5_swap 21 = .ok (.iaload, 1) := by decide +kernel
theorem dX5_swap_22 : decode cX5_swap 22 = .ok (.istore_n 3, 1) := by decide +kernel
theorem dX5_swap_23 : decode cX5_swap 23 = .ok (.aload_n 0, 1) := by decide +kernel
theorem dX5_swap_24 : decode cX5_swap 24 = .ok (.getfield 25, 3) := by decide +kernel
theorem dX5_swap_27 : decode cX5_swap 27 = .ok (.iload_n 1, 1) := by decide +kernel
theorem dX5_swap_28 : decode cX5_swap 28 = .ok (.iaload, 1) := by decide +kernel
theorem dX5_swap_29 : decode cX5_swap 29 = .ok (.istore 4, 2) := by decide +kernel
theorem dX5_swap_31 : decode cX5_swap 31 = .ok (.aload_n 0, 1) := by decide +kernel
theorem dX5_swap_32 : decode cX5_swap 32 = .ok (.iload_n 1, 1) := by decide +kernel
theorem dX5_swap_33 : decode cX5_swap 33 = .ok (.aload_n 0, 1) := by decide +kernel
theorem dX5_swap_34 : decode cX5_swap 34 = .ok (.getfield 21, 3) := by decide +kernel
theorem dX5_swap_37 : decode cX5_swap 37 = .ok (.iload_n 2, 1) := by decide +kernel
theorem dX5_swap_38 : decode cX5_swap 38 = .ok (.iaload, 1) := by decide +kernel
theorem dX5_swap_39 : decode cX5_swap 39 = .ok (.aload_n 0, 1) := by decide +kernel
theorem dX5_swap_40 : decode cX5_swap 40 = .ok (.getfield 25, 3) := by decide +kernel
theorem dX5_swap_43 : decode cX5_swap 43 = .ok (.iload_n 2, 1) := by decide +kernel
theorem dX5_swap_44 : decode cX5_swap 44 = .ok (.iaload, 1) := by decide +kernel
theorem dX5_swap_45 : decode cX5_swap 45 = .ok (.invokevirtual 65, 3) := by decide +kernel
theorem dX5_swap_48 : decode cX5_swap 48 = .ok (.aload_n 0, 1) := by decide +kernel
theorem dX5_swap_49 : decode cX5_swap 49 = .ok (.iload_n 2, 1) := by decide +kernel
theorem dX5_swap_50 : decode cX5_swap 50 = .ok (.iload_n 3, 1) := by decide +kernel
theorem dX5_swap_51 : decode cX5_swap 51 = .ok (.iload 4, 2) := by decide +kernel
theorem dX5_swap_53 : decode cX5_swap 53 = .ok (.invokevirtual 65, 3) := by decide +kernel
theorem dX5_swap_56 : decode cX5_swap 56 = .ok (.return_, 1) := by decide +kernel
theorem dX5_cellsWithin_0 : decode cX5_cellsWithin 0 = .ok (.iconst 0, 1) := by decide +kernel
theorem dX5_cellsWithin_1 : decode cX5_cellsWithin 1 = .ok (.istore_n 2, 1) := by decide +kernel
theorem dX5_cellsWithin_2 : decode cX5_cellsWithin 2 = .ok (.iconst 0, 1) := by decide +kernel
theorem dX5_cellsWithin_3 : decode cX5_cellsWithin 3 = .ok (.istore_n 3, 1) := by decide +kernel
theorem dX5_cellsWithin_4 : decode cX5_cellsWithin 4 = .ok (.iload_n 3, 1) := by decide +kernel
theorem dX5_cellsWithin_5 : decode cX5_cellsWithin 5 = .ok (.aload_n 0, 1) := by decide +kernel
theorem dX5_cellsWithin_6 : decode cX5_cellsWithin 6 = .ok (.getfield 9, 3) := by decide +kernel
theorem dX5_cellsWithin_9 : decode cX5_cellsWithin 9 = .ok (.if_icmp .ge 41, 3) := by decide +kernel
theorem dX5_cellsWithin_12 : decode cX5_cellsWithin 12 = .ok (.iconst 0, 1) := by decide +kernel
theorem dX5_cellsWithin_13 : decode cX5_cellsWithin 13 = .ok (.istore 4, 2) := by decide +kernel
theorem dX5_cellsWithin_15 : decode cX5_cellsWithin 15 = .ok (.iload 4, 2) := by decide +kernel
theorem dX5_cellsWithin_17 : decode cX5_cellsWithin 17 = .ok (.aload_n 0, 1) := by decide +kernel
theorem dX5_cellsWithin_18 : decode cX5_cellsWithin 18 = .ok (.getfield 15, 3) := by decide +kernel
theorem dX5_cellsWithin_21 : decode cX5_cellsWithin 21 = .ok (.if_icmp .ge 23, 3) := by decide +kernel
theorem dX5_cellsWithin_24 : decode cX5_cellsWithin 24 = .ok (.iload_n 3, 1) := by decide +kernel
theorem dX5_cellsWithin_25 : decode cX5_cellsWithin 25 = .ok (.iload 4, 2) := by decide +kernel
theorem dX5_cellsWithin_27 : decode cX5_cellsWithin 27 = .ok (.isub, 1) := by decide +kernel
theorem dX5_cellsWithin_28 : decode cX5_cellsWithin 28 = .ok (.invokestatic 69, 3) := by decide +kernel
theorem dX5_cellsWithin_31 : decode cX5_cellsWithin 31 = .ok (.iload_n 1, 1) := by decide +kernel
theorem dX5_cellsWithin_32 : decode cX5_cellsWithin 32 = .ok (.if_icmp .gt 6, 3) := by decide +kernel
theorem dX5_cellsWithin_35 : decode cX5_cellsWithin 35 = .ok (.iinc 2 1, 3) := by decide +kernel
theorem dX5_cellsWithin_38 : decode cX5_cellsWithin 38 = .ok (.iinc 4 1, 3) := by decide +kernel
theorem dX5_cellsWithin_41 : decode cX5_cellsWithin 41 = .ok (.goto (-26), 3) := by decide +kernel
theorem dX5_cellsWithin_44 : decode cX5_cellsWithin 44 = .ok (.iinc 3 1, 3) := by decide +kernel
theorem dX5_cellsWithin_47 : decode cX5_cellsWithin 47 = .ok (.goto (-43), 3) := by decide +kernel
theorem dX5_cellsWithin_50 : decode cX5_cellsWithin 50 = .ok (.iload_n 2, 1) := by decide +kernel
theorem dX5_cellsWithin_51 : decode cX5_cellsWithin 51 = .ok (.ireturn, 1) := by decide +kernel
theorem dX5_layWithin_0 : decode cX5_layWithin 0 = .ok (.iconst 0, 1) := by decide +kernel
theorem dX5_layWithin_1 : decode cX5_layWithin 1 = .ok (.istore_n 2, 1) := by decide +kernel
theorem dX5_layWithin_2 : decode cX5_layWithin 2 = .ok (.iconst 0, 1) := by decide +kernel
theorem dX5_layWithin_3 : decode cX5_layWithin 3 = .ok (.istore_n 3, 1) := by decide +kernel
theorem dX5_layWithin_4 : decode cX5_layWithin 4 = .ok (.iload_n 3, 1) := by decide +kernel
theorem dX5_layWithin_5 : decode cX5_layWithin 5 = .ok (.aload_n 0, 1) := by decide +kernel
theorem dX5_layWithin_6 : decode cX5_layWithin 6 = .ok (.getfield 9, 3) := by decide +kernel
theorem dX5_layWithin_9 : decode cX5_layWithin 9 = .ok (.aload_n 0, 1) := by decide +kernel
theorem dX5_layWithin_10 : decode cX5_layWithin 10 = .ok (.getfield 15, 3) := by decide +kernel
theorem dX5_layWithin_13 : decode cX5_layWithin 13 = .ok (.iadd, 1) := by decide +kernel
theorem dX5_layWithin_14 : decode cX5_layWithin 14 = .ok (.iconst 2, 1) := by decide +kernel
theorem dX5_layWithin_15 : decode cX5_layWithin 15 = .ok (.isub, 1) := by decide +kernel
theorem dX5_layWithin_16 : decode cX5_layWithin 16 = .ok (.if_icmp .gt 68, 3) := by decide +kernel
theorem dX5_layWithin_19 : decode cX5_layWithin 19 = .ok (.iconst 0, 1) := by decide +kernel
theorem dX5_layWithin_20 : decode cX5_layWithin 20 = .ok (.istore 4, 2) := by decide +kernel
theorem dX5_layWithin_22 : decode cX5_layWithin 22 = .ok (.iload 4, 2) := by decide +kernel
theorem dX5_layWithin_24 : decode cX5_layWithin 24 = .ok (.aload_n 0, 1) := by decide +kernel
theorem dX5_layWithin_25 : decode cX5_layWithin 25 = .ok (.getfield 9, 3) := by decide +kernel
theorem dX5_layWithin_28 : decode cX5_layWithin 28 = .ok (.if_icmp .ge 50, 3) := by decide +kernel
theorem dX5_layWithin_31 : decode cX5_layWithin 31 = .ok (.iload_n 3, 1) := by decide +kernel
theorem dX5_layWithin_32 : decode cX5_layWithin 32 = .ok (.iload 4, 2) := by decide +kernel
theorem dX5_layWithin_34 : decode cX5_layWithin 34 = .ok (.isub, 1) := by decide +kernel
theorem dX5_layWithin_35 : decode cX5_layWithin 35 = .ok (.istore 5, 2) := by decide +kernel
theorem dX5_layWithin_37 : decode cX5_layWithin 37 = .ok (.aload_n 0, 1) := by decide +kernel
theorem dX5_layWithin_38 : decode cX5_layWithin 38 = .ok (.iload 4, 2) := by decide +kernel
theorem dX5_layWithin_40 : decode cX5_layWithin 40 = .ok (.iload 5, 2) := by decide +kernel
theorem dX5_layWithin_42 : decode cX5_layWithin 42 = .ok (.invokevirtual 74, 3) := by decide +kernel
theorem dX5_layWithin_45 : decode cX5_layWithin 45 = .ok (.ifCond .eq 27, 3) := by decide +kernel
theorem dX5_layWithin_48 : decode cX5_layWithin 48 = .ok (.iload 4, 2) := by decide +kernel
theorem dX5_layWithin_50 : decode cX5_layWithin 50 = .ok (.iload 5, 2) := by decide +kernel
theorem dX5_layWithin_52 : decode cX5_layWithin 52 = .ok (.isub, 1) := by decide +kernel
theorem dX5_layWithin_53 : decode cX5_layWithin 53 = .ok (.invokestatic 69, 3) := by decide +kernel
theorem dX5_layWithin_56 : decode cX5_layWithin 56 = .ok (.iload_n 1, 1) := by decide +kernel
theorem dX5_layWithin_57 : decode cX5_layWithin 57 = .ok (.if_icmp .gt 15, 3) := by decide +kernel
theorem dX5_layWithin_60 : decode cX5_layWithin 60 = .ok (.aload_n 0, 1) := by decide +kernel
theorem dX5_layWithin_61 : decode cX5_layWithin 61 = .ok (.iload_n 2, 1) := by decide +kernel
theorem dX5_layWithin_62 : decode cX5_layWithin 62 = .ok (.iload 4, 2) := by decide +kernel
theorem dX5_layWithin_64 : decode cX5_layWithin 64 = .ok (.iload 5, 2) := by decide +kernel
theorem dX5_layWithin_66 : decode cX5_layWithin 66 = .ok (.invokevirtual 65, 3) := by decide +kernel
theorem dX5_layWithin_69 : decode cX5_layWithin 69 = .ok (.iinc 2 1, 3) := by decide +kernel
theorem dX5_layWithin_72 : decode cX5_layWithin 72 = .ok (.iinc 4 1, 3) := by decide +kernel
theorem dX5_layWithin_75 : decode cX5_layWithin 75 = .ok (.goto (-53), 3) := by decide +kernel
theorem dX5_layWithin_78 : decode cX5_layWithin 78 = .ok (.iinc 3 1, 3) := by decide +kernel
theorem dX5_layWithin_81 : decode cX5_layWithin 81 = .ok (.goto (-77), 3) := by decide +kernel
theorem dX5_layWithin_84 : decode cX5_layWithin 84 = .ok (.return_, 1) := by decide +kernel
theorem dX5_loseOrFind_0 : decode cX5_loseOrFind 0 = .ok (.aload_n 0, 1) := by decide +kernel
theorem dX5_loseOrFind_1 : decode cX5_loseOrFind 1 = .ok (.dup, 1) := by decide +kernel
theorem dX5_loseOrFind_2 : decode cX5_loseOrFind 2 = .ok (.getfield 34, 3) := by decide +kernel
theorem dX5_loseOrFind_5 : decode cX5_loseOrFind 5 = .ok (.iconst 1, 1) := by decide +kernel
theorem dX5_loseOrFind_6 : decode cX5_loseOrFind 6 = .ok (.iload_n 1, 1) := by decide +kernel
theorem dX5_loseOrFind_7 : decode cX5_loseOrFind 7 = .ok (.ishl, 1) := by decide +kernel
theorem dX5_loseOrFind_8 : decode cX5_loseOrFind 8 = .ok (.ixor, 1) := by decide +kernel
theorem dX5_loseOrFind_9 : decode cX5_loseOrFind 9 = .ok (.putfield 34, 3) := by decide +kernel
theorem dX5_loseOrFind_12 : decode cX5_loseOrFind 12 = .ok (.return_, 1) := by decide +kernel
theorem dX5_paintBy_0 : decode cX5_paintBy 0 = .ok (.aload_n 0, 1) := by decide +kernel
theorem dX5_paintBy_1 : decode cX5_paintBy 1 = .ok (.getfield 31, 3) := by decide +kernel
theorem dX5_paintBy_4 : decode cX5_paintBy 4 = .ok (.ifCond .le 32, 3) := by decide +kernel
theorem dX5_paintBy_7 : decode cX5_paintBy 7 = .ok (.iload_n 1, 1) := by decide +kernel
theorem dX5_paintBy_8 : decode cX5_paintBy 8 = .ok (.ifCond .lt 28, 3) := by decide +kernel
theorem dX5_paintBy_11 : decode cX5_paintBy 11 = .ok (.aload_n 0, 1) := by decide +kernel
theorem dX5_paintBy_12 : decode cX5_paintBy 12 = .ok (.getfield 28, 3) := by decide +kernel
theorem dX5_paintBy_15 : decode cX5_paintBy 15 = .ok (.iload_n 1, 1) := by decide +kernel
theorem dX5_paintBy_16 : decode cX5_paintBy 16 = .ok (.iconst 4, 1) := by decide +kernel
theorem dX5_paintBy_17 : decode cX5_paintBy 17 = .ok (.idiv, 1) := by decide +kernel
theorem dX5_paintBy_18 : decode cX5_paintBy 18 = .ok (.iconst 4, 1) := by decide +kernel
theorem dX5_paintBy_19 : decode cX5_paintBy 19 = .ok (.irem, 1) := by decide +kernel
theorem dX5_paintBy_20 : decode cX5_paintBy 20 = .ok (.iconst 4, 1) := by decide +kernel
theorem dX5_paintBy_21 : decode cX5_paintBy 21 = .ok (.imul, 1) := by decide +kernel
theorem dX5_paintBy_22 : decode cX5_paintBy 22 = .ok (.iload_n 1, 1) := by decide +kernel
theorem dX5_paintBy_23 : decode cX5_paintBy 23 = .ok (.iconst 4, 1) := by decide +kernel
theorem dX5_paintBy_24 : decode cX5_paintBy 24 = .ok (.irem, 1) := by decide +kernel
theorem dX5_paintBy_25 : decode cX5_paintBy 25 = .ok (.iadd, 1) := by decide +kernel
theorem dX5_paintBy_26 : decode cX5_paintBy 26 = .ok (.iload_n 1, 1) := by decide +kernel
theorem dX5_paintBy_27 : decode cX5_paintBy 27 = .ok (.bipush 16, 2) := by decide +kernel
theorem dX5_paintBy_29 : decode cX5_paintBy 29 = .ok (.idiv, 1) := by decide +kernel
theorem dX5_paintBy_30 : decode cX5_paintBy 30 = .ok (.aload_n 0, 1) := by decide +kernel
theorem dX5_paintBy_31 : decode cX5_paintBy 31 = .ok (.getfield 31, 3) := by decide +kernel
theorem dX5_paintBy_34 : decode cX5_paintBy 34 = .ok (.irem, 1) := by decide +kernel
theorem dX5_paintBy_35 : decode cX5_paintBy 35 = .ok (.iastore, 1) := by decide +kernel
theorem dX5_paintBy_36 : decode cX5_paintBy 36 = .ok (.return_, 1) := by decide +kernel
theorem dX6_init_0 : decode cX6_init 0 = .ok (.aload_n 0, 1) := by decide +kernel
theorem dX6_init_1 : decode cX6_init 1 = .ok (.invokespecial 3, 3) := by decide +kernel
theorem dX6_init_4 : decode cX6_init 4 = .ok (.aload_n 0, 1) := by decide +kernel
theorem dX6_init_5 : decode cX6_init 5 = .ok (.bipush 70, 2) := by decide +kernel
theorem dX6_init_7 : decode cX6_init 7 = .ok (.newarray .int, 2) := by decide +kernel
theorem dX6_init_9 : decode cX6_init 9 = .ok (.putfield 9, 3) := by decide +kernel
theorem dX6_init_12 : decode cX6_init 12 = .ok (.return_, 1) := by decide +kernel
theorem dX6_add_0 : decode cX6_add 0 = .ok (.aload_n 0, 1) := by decide +kernel
theorem dX6_add_1 : decode cX6_add 1 = .ok (.getfield 15, 3) := by decide +kernel
theorem dX6_add_4 : decode cX6_add 4 = .ok (.bipush 70, 2) := by decide +kernel
theorem dX6_add_6 : decode cX6_add 6 = .ok (.if_icmp .lt 5, 3) := by decide +kernel
theorem dX6_add_9 : decode cX6_add 9 = .ok (.iconst 0, 1) := by decide +kernel
theorem dX6_add_10 : decode cX6_add 10 = .ok (.ireturn, 1) := by decide +kernel
theorem dX6_add_11 : decode cX6_add 11 = .ok (.aload_n 0, 1) := by decide +kernel
theorem dX6_add_12 : decode cX6_add 12 = .ok (.getfield 9, 3) := by decide +kernel
theorem dX6_add_15 : decode cX6_add 15 = .ok (.aload_n 0, 1) := by decide +kernel
theorem dX6_add_16 : decode cX6_add 16 = .ok (.getfield 15, 3) := by decide +kernel
theorem dX6_add_19 : decode cX6_add 19 = .ok (.iload_n 1, 1) := by decide +kernel
theorem dX6_add_20 : decode cX6_add 20 = .ok (.iastore, 1) := by decide +kernel
theorem dX6_add_21 : decode cX6_add 21 = .ok (.aload_n 0, 1) := by decide +kernel
theorem dX6_add_22 : decode cX6_add 22 = .ok (.dup, 1) := by decide +kernel
theorem dX6_add_23 : decode cX6_add 23 = .ok (.getfield 15, 3) := by decide +kernel
theorem dX6_add_26 : decode cX6_add 26 = .ok (.iconst 1, 1) := by decide +kernel
theorem dX6_add_27 : decode cX6_add 27 = .ok (.iadd, 1) := by decide +kernel
theorem dX6_add_28 : decode cX6_add 28 = .ok (.putfield 15, 3) := by decide +kernel
theorem dX6_add_31 : decode cX6_add 31 = .ok (.iconst 1, 1) := by decide +kernel
theorem dX6_add_32 : decode cX6_add 32 = .ok (.ireturn, 1) := by decide +kernel
theorem dX6_readInto_0 : decode cX6_readInto 0 = .ok (.aload_n 1, 1) := by decide +kernel
theorem dX6_readInto_1 : decode cX6_readInto 1 = .ok (.invokevirtual 19, 3) := by decide +kernel
theorem dX6_readInto_4 : decode cX6_readInto 4 = .ok (.iconst 0, 1) := by decide +kernel
theorem dX6_readInto_5 : decode cX6_readInto 5 = .ok (.istore_n 2, 1) := by decide +kernel
theorem dX6_readInto_6 : decode cX6_readInto 6 = .ok (.iload_n 2, 1) := by decide +kernel
theorem dX6_readInto_7 : decode cX6_readInto 7 = .ok (.aload_n 0, 1) := by decide +kernel
theorem dX6_readInto_8 : decode cX6_readInto 8 = .ok (.getfield 15, 3) := by decide +kernel
theorem dX6_readInto_11 : decode cX6_readInto 11 = .ok (.if_icmp .ge 25, 3) := by decide +kernel
theorem dX6_readInto_14 : decode cX6_readInto 14 = .ok (.aload_n 1, 1) := by decide +kernel
theorem dX6_readInto_15 : decode cX6_readInto 15 = .ok (.iload_n 2, 1) := by decide +kernel
theorem dX6_readInto_16 : decode cX6_readInto 16 = .ok (.aload_n 0, 1) := by decide +kernel
theorem dX6_readInto_17 : decode cX6_readInto 17 = .ok (.getfield 9, 3) := by decide +kernel
theorem dX6_readInto_20 : decode cX6_readInto 20 = .ok (.iload_n 2, 1) := by decide +kernel
theorem dX6_readInto_21 : decode cX6_readInto 21 = .ok (.iaload, 1) := by decide +kernel
theorem dX6_readInto_22 : decode cX6_readInto 22 = .ok (.invokestatic 24, 3) := by decide +kernel
theorem dX6_readInto_25 : decode cX6_readInto 25 = .ok (.ifCond .ne 5, 3) := by decide +kernel
theorem dX6_readInto_28 : decode cX6_readInto 28 = .ok (.iload_n 2, 1) := by decide +kernel
theorem dX6_readInto_29 : decode cX6_readInto 29 = .ok (.ireturn, 1) := by decide +kernel
theorem dX6_readInto_30 : decode cX6_readInto 30 = .ok (.iinc 2 1, 3) := by decide +kernel
theorem dX6_readInto_33 : decode cX6_readInto 33 = .ok (.goto (-27), 3) := by decide +kernel
theorem dX6_readInto_36 : decode cX6_readInto 36 = .ok (.aload_n 0, 1) := by decide +kernel
theorem dX6_readInto_37 : decode cX6_readInto 37 = .ok (.getfield 15, 3) := by decide +kernel
theorem dX6_readInto_40 : decode cX6_readInto 40 = .ok (.ifCond .le 17, 3) := by decide +kernel
theorem dX6_readInto_43 : decode cX6_readInto 43 = .ok (.aload_n 0, 1) := by decide +kernel
theorem dX6_readInto_44 : decode cX6_readInto 44 = .ok (.getfield 15, 3) := by decide +kernel
theorem dX6_readInto_47 : decode cX6_readInto 47 = .ok (.iconst 3, 1) := by decide +kernel
theorem dX6_readInto_48 : decode cX6_readInto 48 = .ok (.irem, 1) := by decide +kernel
theorem dX6_readInto_49 : decode cX6_readInto 49 = .ok (.ifCond .ne 8, 3) := by decide +kernel
theorem dX6_readInto_52 : decode cX6_readInto 52 = .ok (.bipush (-9), 2) := by decide +kernel
theorem dX6_readInto_54 : decode cX6_readInto 54 = .ok (.goto 7, 3) := by decide +kernel
theorem dX6_readInto_57 : decode cX6_readInto 57 = .ok (.aload_n 0, 1) := by decide +kernel
theorem dX6_readInto_58 : decode cX6_readInto 58 = .ok (.getfield 15, 3) := by decide +kernel
theorem dX6_readInto_61 : decode cX6_readInto 61 = .ok (.ireturn, 1) := by decide +kernel
theorem dX6_takes_0 : decode cX6_takes 0 = .ok (.iload_n 2, 1) := by decide +kernel
theorem dX6_takes_1 : decode cX6_takes 1 = .ok (.bipush 48, 2) := by decide +kernel
theorem dX6_takes_3 : decode cX6_takes 3 = .ok (.isub, 1) := by decide +kernel
theorem dX6_takes_4 : decode cX6_takes 4 = .ok (.istore_n 3, 1) := by decide +kernel
theorem dX6_takes_5 : decode cX6_takes 5 = .ok (.iload_n 1, 1) := by decide +kernel
theorem dX6_takes_6 : decode cX6_takes 6 = .ok (.tableswitch 50 0 2 #[26, 38, 44], 26) := by decide +kernel
theorem dX6_takes_32 : decode cX6_takes 32 = .ok (.iload_n 2, 1) := by decide +kernel
theorem dX6_takes_33 : decode cX6_takes 33 = .ok (.bipush 77, 2) := by decide +kernel
theorem dX6_takes_35 : decode cX6_takes 35 = .ok (.if_icmp .ne 7, 3) := by decide +kernel
theorem dX6_takes_38 : decode cX6_takes 38 = .ok (.iconst 1, 1) := by decide +kernel
theorem dX6_takes_39 : decode cX6_takes 39 = .ok (.goto 4, 3) := by decide +kernel
theorem dX6_takes_42 : decode cX6_takes 42 = .ok (.iconst 0, 1) := by decide +kernel
theorem dX6_takes_43 : decode cX6_takes 43 = .ok (.ireturn, 1) := by decide +kernel
theorem dX6_takes_44 : decode cX6_takes 44 = .ok (.aload_n 0, 1) := by decide +kernel
theorem dX6_takes_45 : decode cX6_takes 45 = .ok (.iload_n 3, 1) := by decide +kernel
theorem dX6_takes_46 : decode cX6_takes 46 = .ok (.invokevirtual 28, 3) := by decide +kernel
theorem dX6_takes_49 : decode cX6_takes 49 = .ok (.ireturn, 1) := by decide +kernel
theorem dX6_takes_50 : decode cX6_takes 50 = .ok (.aload_n 0, 1) := by decide +kernel
theorem dX6_takes_51 : decode cX6_takes 51 = .ok (.iload_n 3, 1) := by decide +kernel
theorem dX6_takes_52 : decode cX6_takes 52 = .ok (.invokevirtual 32, 3) := by decide +kernel
theorem dX6_takes_55 : decode cX6_takes 55 = .ok (.ireturn, 1) := by decide +kernel
theorem dX6_takes_56 : decode cX6_takes 56 = .ok (.iload_n 1, 1) := by decide +kernel
theorem dX6_takes_57 : decode cX6_takes 57 = .ok (.iconst 3, 1) := by decide +kernel
theorem dX6_takes_58 : decode cX6_takes 58 = .ok (.irem, 1) := by decide +kernel
theorem dX6_takes_59 : decode cX6_takes 59 = .ok (.lookupswitch 50 #[(0, 25), (1, 44)], 25) := by decide +kernel
theorem dX6_takes_84 : decode cX6_takes 84 = .ok (.iload_n 2, 1) := by decide +kernel
theorem dX6_takes_85 : decode cX6_takes 85 = .ok (.bipush 105, 2) := by decide +kernel
theorem dX6_takes_87 : decode cX6_takes 87 = .ok (.if_icmp .ne 14, 3) := by decide +kernel
theorem dX6_takes_90 : decode cX6_takes 90 = .ok (.aload_n 0, 1) := by decide +kernel
theorem dX6_takes_91 : decode cX6_takes 91 = .ok (.invokevirtual 35, 3) := by decide +kernel
theorem dX6_takes_94 : decode cX6_takes 94 = .ok (.ifCond .eq 7, 3) := by decide +kernel
theorem dX6_takes_97 : decode cX6_takes 97 = .ok (.iconst 1, 1) := by decide +kernel
theorem dX6_takes_98 : decode cX6_takes 98 = .ok (.goto 4, 3) := by decide +kernel
theorem dX6_takes_101 : decode cX6_takes 101 = .ok (.iconst 0, 1) := by decide +kernel
theorem dX6_takes_102 : decode cX6_takes 102 = .ok (.ireturn, 1) := by decide +kernel
theorem dX6_takes_103 : decode cX6_takes 103 = .ok (.aload_n 0, 1) := by decide +kernel
theorem dX6_takes_104 : decode cX6_takes 104 = .ok (.iload_n 3, 1) := by decide +kernel
theorem dX6_takes_105 : decode cX6_takes 105 = .ok (.invokevirtual 39, 3) := by decide +kernel
theorem dX6_takes_108 : decode cX6_takes 108 = .ok (.ireturn, 1) := by decide +kernel
theorem dX6_takes_109 : decode cX6_takes 109 = .ok (.aload_n 0, 1) := by decide +kernel
theorem dX6_takes_110 : decode cX6_takes 110 = .ok (.iload_n 3, 1) := by decide +kernel
theorem dX6_takes_111 : decode cX6_takes 111 = .ok (.invokevirtual 42, 3) := by decide +kernel
theorem dX6_takes_114 : decode cX6_takes 114 = .ok (.ireturn, 1) := by decide +kernel
theorem dJ6_bitCount_0f7a4_0 : decode cJ6_bitCount_0f7a4 0 = .ok (.iload_n 0, 1) := by decide +kernel
theorem dJ6_bitCount_0f7a4_1 : decode cJ6_bitCount_0f7a4 1 = .ok (.iload_n 0, 1) := by decide +kernel
theorem dJ6_bitCount_0f7a4_2 : decode cJ6_bitCount_0f7a4 2 = .ok (.iconst 1, 1) := by decide +kernel
theorem dJ6_bitCount_0f7a4_3 : decode cJ6_bitCount_0f7a4 3 = .ok (.iushr, 1) := by decide +kernel
theorem dJ6_bitCount_0f7a4_4 : decode cJ6_bitCount_0f7a4 4 = .ok (.ldc_w 265, 3) := by decide +kernel
theorem dJ6_bitCount_0f7a4_7 : decode cJ6_bitCount_0f7a4 7 = .ok (.iand, 1) := by decide +kernel
theorem dJ6_bitCount_0f7a4_8 : decode cJ6_bitCount_0f7a4 8 = .ok (.isub, 1) := by decide +kernel
theorem dJ6_bitCount_0f7a4_9 : decode cJ6_bitCount_0f7a4 9 = .ok (.istore_n 0, 1) := by decide +kernel
theorem dJ6_bitCount_0f7a4_10 : decode cJ6_bitCount_0f7a4 10 = .ok (.iload_n 0, 1) := by decide +kernel
theorem dJ6_bitCount_0f7a4_11 : decode cJ6_bitCount_0f7a4 11 = .ok (.ldc_w 266, 3) := by decide +kernel
theorem dJ6_bitCount_0f7a4_14 : decode cJ6_bitCount_0f7a4 14 = .ok (.iand, 1) := by decide +kernel
theorem dJ6_bitCount_0f7a4_15 : decode cJ6_bitCount_0f7a4 15 = .ok (.iload_n 0, 1) := by decide +kernel
theorem dJ6_bitCount_0f7a4_16 : decode cJ6_bitCount_0f7a4 16 = .ok (.iconst 2, 1) := by decide +kernel
theorem dJ6_bitCount_0f7a4_17 : decode cJ6_bitCount_0f7a4 17 = .ok (.iushr, 1) := by decide +kernel
theorem dJ6_bitCount_0f7a4_18 : decode cJ6_bitCount_0f7a4 18 = .ok (.ldc_w 266, 3) := by decide +kernel
theorem dJ6_bitCount_0f7a4_21 : decode cJ6_bitCount_0f7a4 21 = .ok (.iand, 1) := by decide +kernel
theorem dJ6_bitCount_0f7a4_22 : decode cJ6_bitCount_0f7a4 22 = .ok (.iadd, 1) := by decide +kernel
theorem dJ6_bitCount_0f7a4_23 : decode cJ6_bitCount_0f7a4 23 = .ok (.istore_n 0, 1) := by decide +kernel
theorem dJ6_bitCount_0f7a4_24 : decode cJ6_bitCount_0f7a4 24 = .ok (.iload_n 0, 1) := by decide +kernel
theorem dJ6_bitCount_0f7a4_25 : decode cJ6_bitCount_0f7a4 25 = .ok (.iload_n 0, 1) := by decide +kernel
theorem dJ6_bitCount_0f7a4_26 : decode cJ6_bitCount_0f7a4 26 = .ok (.iconst 4, 1) := by decide +kernel
theorem dJ6_bitCount_0f7a4_27 : decode cJ6_bitCount_0f7a4 27 = .ok (.iushr, 1) := by decide +kernel
theorem dJ6_bitCount_0f7a4_28 : decode cJ6_bitCount_0f7a4 28 = .ok (.iadd, 1) := by decide +kernel
theorem dJ6_bitCount_0f7a4_29 : decode cJ6_bitCount_0f7a4 29 = .ok (.ldc_w 267, 3) := by decide +kernel
theorem dJ6_bitCount_0f7a4_32 : decode cJ6_bitCount_0f7a4 32 = .ok (.iand, 1) := by decide +kernel
theorem dJ6_bitCount_0f7a4_33 : decode cJ6_bitCount_0f7a4 33 = .ok (.istore_n 0, 1) := by decide +kernel
theorem dJ6_bitCount_0f7a4_34 : decode cJ6_bitCount_0f7a4 34 = .ok (.iload_n 0, 1) := by decide +kernel
theorem dJ6_bitCount_0f7a4_35 : decode cJ6_bitCount_0f7a4 35 = .ok (.iload_n 0, 1) := by decide +kernel
theorem dJ6_bitCount_0f7a4_36 : decode cJ6_bitCount_0f7a4 36 = .ok (.bipush 8, 2) := by decide +kernel
theorem dJ6_bitCount_0f7a4_38 : decode cJ6_bitCount_0f7a4 38 = .ok (.iushr, 1) := by decide +kernel
theorem dJ6_bitCount_0f7a4_39 : decode cJ6_bitCount_0f7a4 39 = .ok (.iadd, 1) := by decide +kernel
theorem dJ6_bitCount_0f7a4_40 : decode cJ6_bitCount_0f7a4 40 = .ok (.istore_n 0, 1) := by decide +kernel
theorem dJ6_bitCount_0f7a4_41 : decode cJ6_bitCount_0f7a4 41 = .ok (.iload_n 0, 1) := by decide +kernel
theorem dJ6_bitCount_0f7a4_42 : decode cJ6_bitCount_0f7a4 42 = .ok (.iload_n 0, 1) := by decide +kernel
theorem dJ6_bitCount_0f7a4_43 : decode cJ6_bitCount_0f7a4 43 = .ok (.bipush 16, 2) := by decide +kernel
theorem dJ6_bitCount_0f7a4_45 : decode cJ6_bitCount_0f7a4 45 = .ok (.iushr, 1) := by decide +kernel
theorem dJ6_bitCount_0f7a4_46 : decode cJ6_bitCount_0f7a4 46 = .ok (.iadd, 1) := by decide +kernel
theorem dJ6_bitCount_0f7a4_47 : decode cJ6_bitCount_0f7a4 47 = .ok (.istore_n 0, 1) := by decide +kernel
theorem dJ6_bitCount_0f7a4_48 : decode cJ6_bitCount_0f7a4 48 = .ok (.iload_n 0, 1) := by decide +kernel
theorem dJ6_bitCount_0f7a4_49 : decode cJ6_bitCount_0f7a4 49 = .ok (.bipush 63, 2) := by decide +kernel
theorem dJ6_bitCount_0f7a4_51 : decode cJ6_bitCount_0f7a4 51 = .ok (.iand, 1) := by decide +kernel
theorem dJ6_bitCount_0f7a4_52 : decode cJ6_bitCount_0f7a4 52 = .ok (.ireturn, 1) := by decide +kernel
theorem dJ9_abs_0f7a4_0 : decode cJ9_abs_0f7a4 0 = .ok (.iload_n 0, 1) := by decide +kernel
theorem dJ9_abs_0f7a4_1 : decode cJ9_abs_0f7a4 1 = .ok (.ifCond .ge 8, 3) := by decide +kernel
theorem dJ9_abs_0f7a4_4 : decode cJ9_abs_0f7a4 4 = .ok (.iload_n 0, 1) := by decide +kernel
theorem dJ9_abs_0f7a4_5 : decode cJ9_abs_0f7a4 5 = .ok (.ineg, 1) := by decide +kernel
theorem dJ9_abs_0f7a4_6 : decode cJ9_abs_0f7a4 6 = .ok (.goto 4, 3) := by decide +kernel
theorem dJ9_abs_0f7a4_9 : decode cJ9_abs_0f7a4 9 = .ok (.iload_n 0, 1) := by decide +kernel
theorem dJ9_abs_0f7a4_10 : decode cJ9_abs_0f7a4 10 = .ok (.ireturn, 1) := by decide +kernel
theorem dJ9_max_7cf53_0 : decode cJ9_max_7cf53 0 = .ok (.iload_n 0, 1) := by decide +kernel
theorem dJ9_max_7cf53_1 : decode cJ9_max_7cf53 1 = .ok (.iload_n 1, 1) := by decide +kernel
theorem dJ9_max_7cf53_2 : decode cJ9_max_7cf53 2 = .ok (.if_icmp .lt 7, 3) := by decide +kernel
theorem dJ9_max_7cf53_5 : decode cJ9_max_7cf53 5 = .ok (.iload_n 0, 1) := by decide +kernel
theorem dJ9_max_7cf53_6 : decode cJ9_max_7cf53 6 = .ok (.goto 4, 3) := by decide +kernel
theorem dJ9_max_7cf53_9 : decode cJ9_max_7cf53 9 = .ok (.iload_n 1, 1) := by decide +kernel
theorem dJ9_max_7cf53_10 : decode cJ9_max_7cf53 10 = .ok (.ireturn, 1) := by decide +kernel
theorem dJ7_fill_53178_0 : decode cJ7_fill_53178 0 = .ok (.iconst 0, 1) := by decide +kernel
theorem dJ7_fill_53178_1 : decode cJ7_fill_53178 1 = .ok (.istore_n 2, 1) := by decide +kernel
theorem dJ7_fill_53178_2 : decode cJ7_fill_53178 2 = .ok (.aload_n 0, 1) := by decide +kernel
theorem dJ7_fill_53178_3 : decode cJ7_fill_53178 3 = .ok (.arraylength, 1) := by decide +kernel
theorem dJ7_fill_53178_4 : decode cJ7_fill_53178 4 = .ok (.istore_n 3, 1) := by decide +kernel
theorem dJ7_fill_53178_5 : decode cJ7_fill_53178 5 = .ok (.iload_n 2, 1) := by decide +kernel
theorem dJ7_fill_53178_6 : decode cJ7_fill_53178 6 = .ok (.iload_n 3, 1) := by decide +kernel
theorem dJ7_fill_53178_7 : decode cJ7_fill_53178 7 = .ok (.if_icmp .ge 13, 3) := by decide +kernel
theorem dJ7_fill_53178_10 : decode cJ7_fill_53178 10 = .ok (.aload_n 0, 1) := by decide +kernel
theorem dJ7_fill_53178_11 : decode cJ7_fill_53178 11 = .ok (.iload_n 2, 1) := by decide +kernel
theorem dJ7_fill_53178_12 : decode cJ7_fill_53178 12 = .ok (.iload_n 1, 1) := by decide +kernel
theorem dJ7_fill_53178_13 : decode cJ7_fill_53178 13 = .ok (.iastore, 1) := by decide +kernel
theorem dJ7_fill_53178_14 : decode cJ7_fill_53178 14 = .ok (.iinc 2 1, 3) := by decide +kernel
theorem dJ7_fill_53178_17 : decode cJ7_fill_53178 17 = .ok (.goto (-12), 3) := by decide +kernel
theorem dJ7_fill_53178_20 : decode cJ7_fill_53178 20 = .ok (.return_, 1) := by decide +kernel
end
section
theorem dX7_init_0 : decode cX7_init 0 = .ok (.aload_n 0, 1) := by decide +kernel
theorem dX7_init_1 : decode cX7_init 1 = .ok (.invokespecial 3, 3) := by decide +kernel
theorem dX7_init_4 : decode cX7_init 4 = .ok (.aload_n 0, 1) := by decide +kernel
theorem dX7_init_5 : decode cX7_init 5 = .ok (.new 9, 3) := by decide +kernel
theorem dX7_init_8 : decode cX7_init 8 = .ok (.dup, 1) := by decide +kernel
theorem dX7_init_9 : decode cX7_init 9 = .ok (.invokespecial 11, 3) := by decide +kernel
theorem dX7_init_12 : decode cX7_init 12 = .ok (.putfield 12, 3) := by decide +kernel
theorem dX7_init_15 : decode cX7_init 15 = .ok (.aload_n 0, 1) := by decide +kernel
theorem dX7_init_16 : decode cX7_init 16 = .ok (.new 16, 3) := by decide +kernel
theorem dX7_init_19 : decode cX7_init 19 = .ok (.dup, 1) := by decide +kernel
theorem dX7_init_20 : decode cX7_init 20 = .ok (.invokespecial 18, 3) := by decide +kernel
theorem dX7_init_23 : decode cX7_init 23 = .ok (.putfield 19, 3) := by decide +kernel
theorem dX7_init_26 : decode cX7_init 26 = .ok (.aload_n 0, 1) := by decide +kernel
theorem dX7_init_27 : decode cX7_init 27 = .ok (.new 16, 3) := by decide +kernel
theorem dX7_init_30 : decode cX7_init 30 = .ok (.dup, 1) := by decide +kernel
theorem dX7_init_31 : decode cX7_init 31 = .ok (.invokespecial 18, 3) := by decide +kernel
theorem dX7_init_34 : decode cX7_init 34 = .ok (.putfield 23, 3) := by decide +kernel
theorem dX7_init_37 : decode cX7_init 37 = .ok (.aload_n 0, 1) := by decide +kernel
theorem dX7_init_38 : decode cX7_init 38 = .ok (.new 26, 3) := by decide +kernel
theorem dX7_init_41 : decode cX7_init 41 = .ok (.dup, 1) := by decide +kernel
theorem dX7_init_42 : decode cX7_init 42 = .ok (.invokespecial 28, 3) := by decide +kernel
theorem dX7_init_45 : decode cX7_init 45 = .ok (.putfield 29, 3) := by decide +kernel
theorem dX7_init_48 : decode cX7_init 48 = .ok (.aload_n 0, 1) := by decide +kernel
theorem dX7_init_49 : decode cX7_init 49 = .ok (.new 33, 3) := by decide +kernel
theorem dX7_init_52 : decode cX7_init 52 = .ok (.dup, 1) := by decide +kernel
theorem dX7_init_53 : decode cX7_init 53 = .ok (.invokespecial 35, 3) := by decide +kernel
theorem dX7_init_56 : decode cX7_init 56 = .ok (.putfield 36, 3) := by decide +kernel
theorem dX7_init_59 : decode cX7_init 59 = .ok (.aload_n 0, 1) := by decide +kernel
theorem dX7_init_60 : decode cX7_init 60 = .ok (.new 40, 3) := by decide +kernel
theorem dX7_init_63 : decode cX7_init 63 = .ok (.dup, 1) := by decide +kernel
theorem dX7_init_64 : decode cX7_init 64 = .ok (.invokespecial 42, 3) := by decide +kernel
theorem dX7_init_67 : decode cX7_init 67 = .ok (.putfield 43, 3) := by decide +kernel
theorem dX7_init_70 : decode cX7_init 70 = .ok (.aload_n 0, 1) := by decide +kernel
theorem dX7_init_71 : decode cX7_init 71 = .ok (.new 47, 3) := by decide +kernel
theorem dX7_init_74 : decode cX7_init 74 = .ok (.dup, 1) := by decide +kernel
theorem dX7_init_75 : decode cX7_init 75 = .ok (.invokespecial 49, 3) := by decide +kernel
theorem dX7_init_78 : decode cX7_init 78 = .ok (.putfield 50, 3) := by decide +kernel
theorem dX7_init_81 : decode cX7_init 81 = .ok (.aload_n 0, 1) := by decide +kernel
theorem dX7_init_82 : decode cX7_init 82 = .ok (.new 54, 3) := by decide +kernel
theorem dX7_init_85 : decode cX7_init 85 = .ok (.dup, 1) := by decide +kernel
theorem dX7_init_86 : decode cX7_init 86 = .ok (.invokespecial 56, 3) := by decide +kernel
theorem dX7_init_89 : decode cX7_init 89 = .ok (.putfield 57, 3) := by decide +kernel
theorem dX7_init_92 : decode cX7_init 92 = .ok (.aload_n 0, 1) := by decide +kernel
theorem dX7_init_93 : decode cX7_init 93 = .ok (.bipush 16, 2) := by decide +kernel
theorem dX7_init_95 : decode cX7_init 95 = .ok (.newarray .int, 2) := by decide +kernel
theorem dX7_init_97 : decode cX7_init 97 = .ok (.putfield 61, 3) := by decide +kernel
theorem dX7_init_100 : decode cX7_init 100 = .ok (.return_, 1) := by decide +kernel
theorem dX7_write_0 : decode cX7_write 0 = .ok (.iload_n 1, 1) := by decide +kernel
theorem dX7_write_1 : decode cX7_write 1 = .ok (.ifCond .lt 10, 3) := by decide +kernel
theorem dX7_write_4 : decode cX7_write 4 = .ok (.iload_n 1, 1) := by decide +kernel
theorem dX7_write_5 : decode cX7_write 5 = .ok (.sipush 255, 3) := by decide +kernel
theorem dX7_write_8 : decode cX7_write 8 = .ok (.if_icmp .le 6, 3) := by decide +kernel
theorem dX7_write_11 : decode cX7_write 11 = .ok (.bipush (-2), 2) := by decide +kernel
theorem dX7_write_13 : decode cX7_write 13 = .ok (.ireturn, 1) := by decide +kernel
theorem dX7_write_14 : decode cX7_write 14 = .ok (.aload_n 0, 1) := by decide +kernel
theorem dX7_write_15 : decode cX7_write 15 = .ok (.getfield 12, 3) := by decide +kernel
theorem dX7_write_18 : decode cX7_write 18 = .ok (.iload_n 1, 1) := by decide +kernel
theorem dX7_write_19 : decode cX7_write 19 = .ok (.invokevirtual 65, 3) := by decide +kernel
theorem dX7_write_22 : decode cX7_write 22 = .ok (.ifCond .eq 13, 3) := by decide +kernel
theorem dX7_write_25 : decode cX7_write 25 = .ok (.aload_n 0, 1) := by decide +kernel
theorem dX7_write_26 : decode cX7_write 26 = .ok (.getfield 12, 3) := by decide +kernel
theorem dX7_write_29 : decode cX7_write 29 = .ok (.getfield 69, 3) := by decide +kernel
theorem dX7_write_32 : decode cX7_write 32 = .ok (.goto 5, 3) := by decide +kernel
theorem dX7_write_35 : decode cX7_write 35 = .ok (.bipush (-4), 2) := by decide +kernel
theorem dX7_write_37 : decode cX7_write 37 = .ok (.ireturn, 1) := by decide +kernel
theorem dX7_wipe_0 : decode cX7_wipe 0 = .ok (.aload_n 0, 1) := by decide +kernel
theorem dX7_wipe_1 : decode cX7_wipe 1 = .ok (.getfield 12, 3) := by decide +kernel
theorem dX7_wipe_4 : decode cX7_wipe 4 = .ok (.getfield 69, 3) := by decide +kernel
theorem dX7_wipe_7 : decode cX7_wipe 7 = .ok (.istore_n 1, 1) := by decide +kernel
theorem dX7_wipe_8 : decode cX7_wipe 8 = .ok (.aload_n 0, 1) := by decide +kernel
theorem dX7_wipe_9 : decode cX7_wipe 9 = .ok (.getfield 12, 3) := by decide +kernel
theorem dX7_wipe_12 : decode cX7_wipe 12 = .ok (.iconst 0, 1) := by decide +kernel
theorem dX7_wipe_13 : decode cX7_wipe 13 = .ok (.putfield 69, 3) := by decide +kernel
theorem dX7_wipe_16 : decode cX7_wipe 16 = .ok (.iload_n 1, 1) := by decide +kernel
theorem dX7_wipe_17 : decode cX7_wipe 17 = .ok (.ireturn, 1) := by decide +kernel
theorem dX7_fault_0 : decode cX7_fault 0 = .ok (.aload_n 0, 1) := by decide +kernel
theorem dX7_fault_1 : decode cX7_fault 1 = .ok (.getfield 12, 3) := by decide +kernel
theorem dX7_fault_4 : decode cX7_fault 4 = .ok (.aload_n 0, 1) := by decide +kernel
theorem dX7_fault_5 : decode cX7_fault 5 = .ok (.getfield 23, 3) := by decide +kernel
theorem dX7_fault_8 : decode cX7_fault 8 = .ok (.invokevirtual 73, 3) := by decide +kernel
theorem dX7_fault_11 : decode cX7_fault 11 = .ok (.ireturn, 1) := by decide +kernel
theorem dX7_map_0 : decode cX7_map 0 = .ok (.aload_n 0, 1) := by decide +kernel
theorem dX7_map_1 : decode cX7_map 1 = .ok (.getfield 12, 3) := by decide +kernel
theorem dX7_map_4 : decode cX7_map 4 = .ok (.aload_n 0, 1) := by decide +kernel
theorem dX7_map_5 : decode cX7_map 5 = .ok (.getfield 23, 3) := by decide +kernel
theorem dX7_map_8 : decode cX7_map 8 = .ok (.invokevirtual 73, 3) := by decide +kernel
theorem dX7_map_11 : decode cX7_map 11 = .ok (.bipush (-9), 2) := by decide +kernel
theorem dX7_map_13 : decode cX7_map 13 = .ok (.if_icmp .eq 6, 3) := by decide +kernel
theorem dX7_map_16 : decode cX7_map 16 = .ok (.bipush (-3), 2) := by decide +kernel
theorem dX7_map_18 : decode cX7_map 18 = .ok (.ireturn, 1) := by decide +kernel
theorem dX7_map_19 : decode cX7_map 19 = .ok (.aload_n 0, 1) := by decide +kernel
theorem dX7_map_20 : decode cX7_map 20 = .ok (.getfield 19, 3) := by decide +kernel
theorem dX7_map_23 : decode cX7_map 23 = .ok (.aload_n 0, 1) := by decide +kernel
theorem dX7_map_24 : decode cX7_map 24 = .ok (.getfield 23, 3) := by decide +kernel
theorem dX7_map_27 : decode cX7_map 27 = .ok (.invokevirtual 77, 3) := by decide +kernel
theorem dX7_map_30 : decode cX7_map 30 = .ok (.aload_n 0, 1) := by decide +kernel
theorem dX7_map_31 : decode cX7_map 31 = .ok (.getfield 29, 3) := by decide +kernel
theorem dX7_map_34 : decode cX7_map 34 = .ok (.invokevirtual 81, 3) := by decide +kernel
theorem dX7_map_37 : decode cX7_map 37 = .ok (.aload_n 0, 1) := by decide +kernel
theorem dX7_map_38 : decode cX7_map 38 = .ok (.getfield 36, 3) := by decide +kernel
theorem dX7_map_41 : decode cX7_map 41 = .ok (.invokevirtual 84, 3) := by decide +kernel
theorem dX7_map_44 : decode cX7_map 44 = .ok (.aload_n 0, 1) := by decide +kernel
theorem dX7_map_45 : decode cX7_map 45 = .ok (.getfield 19, 3) := by decide +kernel
theorem dX7_map_48 : decode cX7_map 48 = .ok (.getfield 85, 3) := by decide +kernel
theorem dX7_map_51 : decode cX7_map 51 = .ok (.ireturn, 1) := by decide +kernel
theorem dX7_about_0 : decode cX7_about 0 = .ok (.iload_n 1, 1) := by decide +kernel
theorem dX7_about_1 : decode cX7_about 1 = .ok (.tableswitch 197 0 14 #[75, 83, 91, 99, 107, 115, 120, 146, 152, 158, 163, 168, 173, 181, 189], 75) := by decide +kernel
theorem dX7_about_76 : decode cX7_about 76 = .ok (.aload_n 0, 1) := by decide +kernel
theorem dX7_about_77 : decode cX7_about 77 = .ok (.getfield 19, 3) := by decide +kernel
theorem dX7_about_80 : decode cX7_about 80 = .ok (.getfield 88, 3) := by decide +kernel
theorem dX7_about_83 : decode cX7_about 83 = .ok (.ireturn, 1) := by decide +kernel
theorem dX7_about_84 : decode cX7_about 84 = .ok (.aload_n 0, 1) := by decide +kernel
theorem dX7_about_85 : decode cX7_about 85 = .ok (.getfield 19, 3) := by decide +kernel
theorem dX7_about_88 : decode cX7_about 88 = .ok (.getfield 91, 3) := by decide +kernel
theorem dX7_about_91 : decode cX7_about 91 = .ok (.ireturn, 1) := by decide +kernel
theorem dX7_about_92 : decode cX7_about 92 = .ok (.aload_n 0, 1) := by decide +kernel
theorem dX7_about_93 : decode cX7_about 93 = .ok (.getfield 19, 3) := by decide +kernel
theorem dX7_about_96 : decode cX7_about 96 = .ok (.getfield 85, 3) := by decide +kernel
theorem dX7_about_99 : decode cX7_about 99 = .ok (.ireturn, 1) := by decide +kernel
theorem dX7_about_100 : decode cX7_about 100 = .ok (.aload_n 0, 1) := by decide +kernel
theorem dX7_about_101 : decode cX7_about 101 = .ok (.getfield 19, 3) := by decide +kernel
theorem dX7_about_104 : decode cX7_about 104 = .ok (.getfield 94, 3) := by decide +kernel
theorem dX7_about_107 : decode cX7_about 107 = .ok (.ireturn, 1) := by decide +kernel
theorem dX7_about_108 : decode cX7_about 108 = .ok (.aload_n 0, 1) := by decide +kernel
theorem dX7_about_109 : decode cX7_about 109 = .ok (.getfield 19, 3) := by decide +kernel
theorem dX7_about_112 : decode cX7_about 112 = .ok (.getfield 97, 3) := by decide +kernel
theorem dX7_about_115 : decode cX7_about 115 = .ok (.ireturn, 1) := by decide +kernel
theorem dX7_about_116 : decode cX7_about 116 = .ok (.aload_n 0, 1) := by decide +kernel
theorem dX7_about_117 : decode cX7_about 117 = .ok (.invokevirtual 100, 3) := by decide +kernel
theorem dX7_about_120 : decode cX7_about 120 = .ok (.ireturn, 1) := by decide +kernel
theorem dX7_about_121 : decode cX7_about 121 = .ok (.aload_n 0, 1) := by decide +kernel
theorem dX7_about_122 : decode cX7_about 122 = .ok (.getfield 57, 3) := by decide +kernel
theorem dX7_about_125 : decode cX7_about 125 = .ok (.aload_n 0, 1) := by decide +kernel
theorem dX7_about_126 : decode cX7_about 126 = .ok (.getfield 19, 3) := by decide +kernel
theorem dX7_about_129 : decode cX7_about 129 = .ok (.aload_n 0, 1) := by decide +kernel
theorem dX7_about_130 : decode cX7_about 130 = .ok (.getfield 19, 3) := by decide +kernel
theorem dX7_about_133 : decode cX7_about 133 = .ok (.getfield 94, 3) := by decide +kernel
theorem dX7_about_136 : decode cX7_about 136 = .ok (.aload_n 0, 1) := by decide +kernel
theorem dX7_about_137 : decode cX7_about 137 = .ok (.getfield 19, 3) := by decide +kernel
theorem dX7_about_140 : decode cX7_about 140 = .ok (.getfield 97, 3) := by decide +kernel
theorem dX7_about_143 : decode cX7_about 143 = .ok (.invokevirtual 104, 3) := by decide +kernel
theorem dX7_about_146 : decode cX7_about 146 = .ok (.ireturn, 1) := by decide +kernel
theorem dX7_about_147 : decode cX7_about 147 = .ok (.aload_n 0, 1) := by decide +kernel
theorem dX7_about_148 : decode cX7_about 148 = .ok (.iconst 0, 1) := by decide +kernel
theorem dX7_about_149 : decode cX7_about 149 = .ok (.invokevirtual 108, 3) := by decide +kernel
theorem dX7_about_152 : decode cX7_about 152 = .ok (.ireturn, 1) := by decide +kernel
theorem dX7_about_153 : decode cX7_about 153 = .ok (.aload_n 0, 1) := by decide +kernel
theorem dX7_about_154 : decode cX7_about 154 = .ok (.iconst 1, 1) := by decide +kernel
theorem dX7_about_155 : decode cX7_about 155 = .ok (.invokevirtual 108, 3) := by decide +kernel
theorem dX7_about_158 : decode cX7_about 158 = .ok (.ireturn, 1) := by decide +kernel
theorem dX7_about_159 : decode cX7_about 159 = .ok (.aload_n 0, 1) := by decide +kernel
theorem dX7_about_160 : decode cX7_about 160 = .ok (.invokevirtual 112, 3) := by decide +kernel
theorem dX7_about_163 : decode cX7_about 163 = .ok (.ireturn, 1) := by decide +kernel
theorem dX7_about_164 : decode cX7_about 164 = .ok (.aload_n 0, 1) := by decide +kernel
theorem dX7_about_165 : decode cX7_about 165 = .ok (.invokevirtual 115, 3) := by decide +kernel
theorem dX7_about_168 : decode cX7_about 168 = .ok (.ireturn, 1) := by decide +kernel
theorem dX7_about_169 : decode cX7_about 169 = .ok (.aload_n 0, 1) := by decide +kernel
theorem dX7_about_170 : decode cX7_about 170 = .ok (.invokevirtual 118, 3) := by decide +kernel
theorem dX7_about_173 : decode cX7_about 173 = .ok (.ireturn, 1) := by decide +kernel
theorem dX7_about_174 : decode cX7_about 174 = .ok (.aload_n 0, 1) := by decide +kernel
theorem dX7_about_175 : decode cX7_about 175 = .ok (.getfield 29, 3) := by decide +kernel
theorem dX7_about_178 : decode cX7_about 178 = .ok (.getfield 121, 3) := by decide +kernel
theorem dX7_about_181 : decode cX7_about 181 = .ok (.ireturn, 1) := by decide +kernel
theorem dX7_about_182 : decode cX7_about 182 = .ok (.aload_n 0, 1) := by decide +kernel
theorem dX7_about_183 : decode cX7_about 183 = .ok (.getfield 43, 3) := by decide +kernel
theorem dX7_about_186 : decode cX7_about 186 = .ok (.getfield 124, 3) := by decide +kernel
theorem dX7_about_189 : decode cX7_about 189 = .ok (.ireturn, 1) := by decide +kernel
theorem dX7_about_190 : decode cX7_about 190 = .ok (.aload_n 0, 1) := by decide +kernel
theorem dX7_about_191 : decode cX7_about 191 = .ok (.getfield 12, 3) := by decide +kernel
theorem dX7_about_194 : decode cX7_about 194 = .ok (.getfield 69, 3) := by decide +kernel
theorem dX7_about_197 : decode cX7_about 197 = .ok (.ireturn, 1) := by decide +kernel
theorem dX7_about_198 : decode cX7_about 198 = .ok (.bipush (-2), 2) := by decide +kernel
theorem dX7_about_200 : decode cX7_about 200 = .ok (.ireturn, 1) := by decide +kernel
theorem dX7_shade_0 : decode cX7_shade 0 = .ok (.aload_n 0, 1) := by decide +kernel
theorem dX7_shade_1 : decode cX7_shade 1 = .ok (.getfield 19, 3) := by decide +kernel
theorem dX7_shade_4 : decode cX7_shade 4 = .ok (.iload_n 1, 1) := by decide +kernel
theorem dX7_shade_5 : decode cX7_shade 5 = .ok (.invokevirtual 125, 3) := by decide +kernel
theorem dX7_shade_8 : decode cX7_shade 8 = .ok (.ifCond .ne 5, 3) := by decide +kernel
theorem dX7_shade_11 : decode cX7_shade 11 = .ok (.iconst (-1), 1) := by decide +kernel
theorem dX7_shade_12 : decode cX7_shade 12 = .ok (.ireturn, 1) := by decide +kernel
theorem dX7_shade_13 : decode cX7_shade 13 = .ok (.iload_n 2, 1) := by decide +kernel
theorem dX7_shade_14 : decode cX7_shade 14 = .ok (.tableswitch 55 0 2 #[26, 36, 46], 26) := by decide +kernel
theorem dX7_shade_40 : decode cX7_shade 40 = .ok (.aload_n 0, 1) := by decide +kernel
theorem dX7_shade_41 : decode cX7_shade 41 = .ok (.getfield 19, 3) := by decide +kernel
theorem dX7_shade_44 : decode cX7_shade 44 = .ok (.getfield 128, 3) := by decide +kernel
theorem dX7_shade_47 : decode cX7_shade 47 = .ok (.iload_n 1, 1) := by decide +kernel
theorem dX7_shade_48 : decode cX7_shade 48 = .ok (.iaload, 1) := by decide +kernel
theorem dX7_shade_49 : decode cX7_shade 49 = .ok (.ireturn, 1) := by decide +kernel
theorem dX7_shade_50 : decode cX7_shade 50 = .ok (.aload_n 0, 1) := by decide +kernel
theorem dX7_shade_51 : decode cX7_shade 51 = .ok (.getfield 19, 3) := by decide +kernel
theorem dX7_shade_54 : decode cX7_shade 54 = .ok (.getfield 131, 3) := by decide +kernel
theorem dX7_shade_57 : decode cX7_shade 57 = .ok (.iload_n 1, 1) := by decide +kernel
theorem dX7_shade_58 : decode cX7_shade 58 = .ok (.iaload, 1) := by decide +kernel
theorem dX7_shade_59 : decode cX7_shade 59 = .ok (.ireturn, 1) := by decide +kernel
theorem dX7_shade_60 : decode cX7_shade 60 = .ok (.aload_n 0, 1) := by decide +kernel
theorem dX7_shade_61 : decode cX7_shade 61 = .ok (.getfield 19, 3) := by decide +kernel
theorem dX7_shade_64 : decode cX7_shade 64 = .ok (.iload_n 1, 1) := by decide +kernel
theorem dX7_shade_65 : decode cX7_shade 65 = .ok (.invokevirtual 134, 3) := by decide +kernel
theorem dX7_shade_68 : decode cX7_shade 68 = .ok (.ireturn, 1) := by decide +kernel
theorem dX7_shade_69 : decode cX7_shade 69 = .ok (.bipush (-2), 2) := by decide +kernel
theorem dX7_shade_71 : decode cX7_shade 71 = .ok (.ireturn, 1) := by decide +kernel
theorem dX7_cell_0 : decode cX7_cell 0 = .ok (.aload_n 0, 1) := by decide +kernel
theorem dX7_cell_1 : decode cX7_cell 1 = .ok (.getfield 19, 3) := by decide +kernel
theorem dX7_cell_4 : decode cX7_cell 4 = .ok (.iload_n 1, 1) := by decide +kernel
theorem dX7_cell_5 : decode cX7_cell 5 = .ok (.iload_n 2, 1) := by decide +kernel
theorem dX7_cell_6 : decode cX7_cell 6 = .ok (.invokevirtual 137, 3) := by decide +kernel
theorem dX7_cell_9 : decode cX7_cell 9 = .ok (.ifCond .ne 5, 3) := by decide +kernel
theorem dX7_cell_12 : decode cX7_cell 12 = .ok (.iconst (-1), 1) := by decide +kernel
theorem dX7_cell_13 : decode cX7_cell 13 = .ok (.ireturn, 1) := by decide +kernel
theorem dX7_cell_14 : decode cX7_cell 14 = .ok (.aload_n 0, 1) := by decide +kernel
theorem dX7_cell_15 : decode cX7_cell 15 = .ok (.getfield 19, 3) := by decide +kernel
theorem dX7_cell_18 : decode cX7_cell 18 = .ok (.iload_n 1, 1) := by decide +kernel
theorem dX7_cell_19 : decode cX7_cell 19 = .ok (.iload_n 2, 1) := by decide +kernel
theorem dX7_cell_20 : decode cX7_cell 20 = .ok (.invokevirtual 141, 3) := by decide +kernel
theorem dX7_cell_23 : decode cX7_cell 23 = .ok (.ireturn, 1) := by decide +kernel
theorem dX7_guess_0 : decode cX7_guess 0 = .ok (.iload_n 1, 1) := by decide +kernel
theorem dX7_guess_1 : decode cX7_guess 1 = .ok (.ifCond .lt 8, 3) := by decide +kernel
theorem dX7_guess_4 : decode cX7_guess 4 = .ok (.iload_n 1, 1) := by decide +kernel
theorem dX7_guess_5 : decode cX7_guess 5 = .ok (.iconst 2, 1) := by decide +kernel
theorem dX7_guess_6 : decode cX7_guess 6 = .ok (.if_icmp .lt 6, 3) := by decide +kernel
theorem dX7_guess_9 : decode cX7_guess 9 = .ok (.bipush (-2), 2) := by decide +kernel
theorem dX7_guess_11 : decode cX7_guess 11 = .ok (.ireturn, 1) := by decide +kernel
theorem dX7_guess_12 : decode cX7_guess 12 = .ok (.iload_n 2, 1) := by decide +kernel
theorem dX7_guess_13 : decode cX7_guess 13 = .ok (.ifCond .lt 15, 3) := by decide +kernel
theorem dX7_guess_16 : decode cX7_guess 16 = .ok (.iload_n 2, 1) := by decide +kernel
theorem dX7_guess_17 : decode cX7_guess 17 = .ok (.aload_n 0, 1) := by decide +kernel
theorem dX7_guess_18 : decode cX7_guess 18 = .ok (.getfield 19, 3) := by decide +kernel
theorem dX7_guess_21 : decode cX7_guess 21 = .ok (.iload_n 1, 1) := by decide +kernel
theorem dX7_guess_22 : decode cX7_guess 22 = .ok (.invokevirtual 145, 3) := by decide +kernel
theorem dX7_guess_25 : decode cX7_guess 25 = .ok (.if_icmp .lt 5, 3) := by decide +kernel
theorem dX7_guess_28 : decode cX7_guess 28 = .ok (.iconst (-1), 1) := by decide +kernel
theorem dX7_guess_29 : decode cX7_guess 29 = .ok (.ireturn, 1) := by decide +kernel
theorem dX7_guess_30 : decode cX7_guess 30 = .ok (.aload_n 0, 1) := by decide +kernel
theorem dX7_guess_31 : decode cX7_guess 31 = .ok (.getfield 50, 3) := by decide +kernel
theorem dX7_guess_34 : decode cX7_guess 34 = .ok (.aload_n 0, 1) := by decide +kernel
theorem dX7_guess_35 : decode cX7_guess 35 = .ok (.getfield 19, 3) := by decide +kernel
theorem dX7_guess_38 : decode cX7_guess 38 = .ok (.invokevirtual 148, 3) := by decide +kernel
theorem dX7_guess_41 : decode cX7_guess 41 = .ok (.aload_n 0, 1) := by decide +kernel
theorem dX7_guess_42 : decode cX7_guess 42 = .ok (.getfield 50, 3) := by decide +kernel
theorem dX7_guess_45 : decode cX7_guess 45 = .ok (.iload_n 1, 1) := by decide +kernel
theorem dX7_guess_46 : decode cX7_guess 46 = .ok (.iload_n 2, 1) := by decide +kernel
theorem dX7_guess_47 : decode cX7_guess 47 = .ok (.invokevirtual 151, 3) := by decide +kernel
theorem dX7_guess_50 : decode cX7_guess 50 = .ok (.ireturn, 1) := by decide +kernel
theorem dX7_dot_0 : decode cX7_dot 0 = .ok (.iload_n 1, 1) := by decide +kernel
theorem dX7_dot_1 : decode cX7_dot 1 = .ok (.iload_n 2, 1) := by decide +kernel
theorem dX7_dot_2 : decode cX7_dot 2 = .ok (.invokestatic 154, 3) := by decide +kernel
theorem dX7_dot_5 : decode cX7_dot 5 = .ok (.ifCond .ne 5, 3) := by decide +kernel
theorem dX7_dot_8 : decode cX7_dot 8 = .ok (.iconst (-1), 1) := by decide +kernel
theorem dX7_dot_9 : decode cX7_dot 9 = .ok (.ireturn, 1) := by decide +kernel
theorem dX7_dot_10 : decode cX7_dot 10 = .ok (.iload_n 3, 1) := by decide +kernel
theorem dX7_dot_11 : decode cX7_dot 11 = .ok (.ifCond .ne 17, 3) := by decide +kernel
theorem dX7_dot_14 : decode cX7_dot 14 = .ok (.aload_n 0, 1) := by decide +kernel
theorem dX7_dot_15 : decode cX7_dot 15 = .ok (.getfield 19, 3) := by decide +kernel
theorem dX7_dot_18 : decode cX7_dot 18 = .ok (.getfield 157, 3) := by decide +kernel
theorem dX7_dot_21 : decode cX7_dot 21 = .ok (.iload_n 1, 1) := by decide +kernel
theorem dX7_dot_22 : decode cX7_dot 22 = .ok (.iconst 4, 1) := by decide +kernel
theorem dX7_dot_23 : decode cX7_dot 23 = .ok (.imul, 1) := by decide +kernel
theorem dX7_dot_24 : decode cX7_dot 24 = .ok (.iload_n 2, 1) := by decide +kernel
theorem dX7_dot_25 : decode cX7_dot 25 = .ok (.iadd, 1) := by decide +kernel
theorem dX7_dot_26 : decode cX7_dot 26 = .ok (.iaload, 1) := by decide +kernel
theorem dX7_dot_27 : decode cX7_dot 27 = .ok (.ireturn, 1) := by decide +kernel
theorem dX7_dot_28 : decode cX7_dot 28 = .ok (.aload_n 0, 1) := by decide +kernel
theorem dX7_dot_29 : decode cX7_dot 29 = .ok (.getfield 57, 3) := by decide +kernel
theorem dX7_dot_32 : decode cX7_dot 32 = .ok (.aload_n 0, 1) := by decide +kernel
theorem dX7_dot_33 : decode cX7_dot 33 = .ok (.getfield 19, 3) := by decide +kernel
theorem dX7_dot_36 : decode cX7_dot 36 = .ok (.aload_n 0, 1) := by decide +kernel
theorem dX7_dot_37 : decode cX7_dot 37 = .ok (.getfield 19, 3) := by decide +kernel
theorem dX7_dot_40 : decode cX7_dot 40 = .ok (.getfield 94, 3) := by decide +kernel
theorem dX7_dot_43 : decode cX7_dot 43 = .ok (.aload_n 0, 1) := by decide +kernel
theorem dX7_dot_44 : decode cX7_dot 44 = .ok (.getfield 19, 3) := by decide +kernel
theorem dX7_dot_47 : decode cX7_dot 47 = .ok (.getfield 97, 3) := by decide +kernel
theorem dX7_dot_50 : decode cX7_dot 50 = .ok (.invokevirtual 160, 3) := by decide +kernel
theorem dX7_dot_53 : decode cX7_dot 53 = .ok (.aload_n 0, 1) := by decide +kernel
theorem dX7_dot_54 : decode cX7_dot 54 = .ok (.getfield 57, 3) := by decide +kernel
theorem dX7_dot_57 : decode cX7_dot 57 = .ok (.getfield 164, 3) := by decide +kernel
theorem dX7_dot_60 : decode cX7_dot 60 = .ok (.iload_n 1, 1) := by decide +kernel
theorem dX7_dot_61 : decode cX7_dot 61 = .ok (.iconst 4, 1) := by decide +kernel
theorem dX7_dot_62 : decode cX7_dot 62 = .ok (.imul, 1) := by decide +kernel
theorem dX7_dot_63 : decode cX7_dot 63 = .ok (.iload_n 2, 1) := by decide +kernel
theorem dX7_dot_64 : decode cX7_dot 64 = .ok (.iadd, 1) := by decide +kernel
theorem dX7_dot_65 : decode cX7_dot 65 = .ok (.iaload, 1) := by decide +kernel
theorem dX7_dot_66 : decode cX7_dot 66 = .ok (.ireturn, 1) := by decide +kernel
theorem dX7_change_0 : decode cX7_change 0 = .ok (.aload_n 0, 1) := by decide +kernel
theorem dX7_change_1 : decode cX7_change 1 = .ok (.getfield 19, 3) := by decide +kernel
theorem dX7_change_4 : decode cX7_change 4 = .ok (.iload_n 1, 1) := by decide +kernel
theorem dX7_change_5 : decode cX7_change 5 = .ok (.invokevirtual 125, 3) := by decide +kernel
theorem dX7_change_8 : decode cX7_change 8 = .ok (.ifCond .eq 14, 3) := by decide +kernel
theorem dX7_change_11 : decode cX7_change 11 = .ok (.aload_n 0, 1) := by decide +kernel
theorem dX7_change_12 : decode cX7_change 12 = .ok (.getfield 19, 3) := by decide +kernel
theorem dX7_change_15 : decode cX7_change 15 = .ok (.iload_n 2, 1) := by decide +kernel
theorem dX7_change_16 : decode cX7_change 16 = .ok (.invokevirtual 125, 3) := by decide +kernel
theorem dX7_change_19 : decode cX7_change 19 = .ok (.ifCond .ne 5, 3) := by decide +kernel
theorem dX7_change_22 : decode cX7_change 22 = .ok (.iconst (-1), 1) := by decide +kernel
theorem dX7_change_23 : decode cX7_change 23 = .ok (.ireturn, 1) := by decide +kernel
theorem dX7_change_24 : decode cX7_change 24 = .ok (.iload_n 1, 1) := by decide +kernel
theorem dX7_change_25 : decode cX7_change 25 = .ok (.iload_n 2, 1) := by decide +kernel
theorem dX7_change_26 : decode cX7_change 26 = .ok (.if_icmp .ne 6, 3) := by decide +kernel
theorem dX7_change_29 : decode cX7_change 29 = .ok (.bipush (-3), 2) := by decide +kernel
theorem dX7_change_31 : decode cX7_change 31 = .ok (.ireturn, 1) := by decide +kernel
theorem dX7_change_32 : decode cX7_change 32 = .ok (.aload_n 0, 1) := by decide +kernel
theorem dX7_change_33 : decode cX7_change 33 = .ok (.getfield 29, 3) := by decide +kernel
theorem dX7_change_36 : decode cX7_change 36 = .ok (.aload_n 0, 1) := by decide +kernel
theorem dX7_change_37 : decode cX7_change 37 = .ok (.getfield 19, 3) := by decide +kernel
theorem dX7_change_40 : decode cX7_change 40 = .ok (.invokevirtual 165, 3) := by decide +kernel
theorem dX7_change_43 : decode cX7_change 43 = .ok (.aload_n 0, 1) := by decide +kernel
theorem dX7_change_44 : decode cX7_change 44 = .ok (.getfield 19, 3) := by decide +kernel
theorem dX7_change_47 : decode cX7_change 47 = .ok (.iload_n 1, 1) := by decide +kernel
theorem dX7_change_48 : decode cX7_change 48 = .ok (.iload_n 2, 1) := by decide +kernel
theorem dX7_change_49 : decode cX7_change 49 = .ok (.invokevirtual 168, 3) := by decide +kernel
theorem dX7_change_52 : decode cX7_change 52 = .ok (.aload_n 0, 1) := by decide +kernel
theorem dX7_change_53 : decode cX7_change 53 = .ok (.aload_n 0, 1) := by decide +kernel
theorem dX7_change_54 : decode cX7_change 54 = .ok (.getfield 19, 3) := by decide +kernel
theorem dX7_change_57 : decode cX7_change 57 = .ok (.invokevirtual 172, 3) := by decide +kernel
theorem dX7_change_60 : decode cX7_change 60 = .ok (.ireturn, 1) := by decide +kernel
theorem dX7_move_0 : decode cX7_move 0 = .ok (.aload_n 0, 1) := by decide +kernel
theorem dX7_move_1 : decode cX7_move 1 = .ok (.getfield 19, 3) := by decide +kernel
theorem dX7_move_4 : decode cX7_move 4 = .ok (.iload_n 1, 1) := by decide +kernel
theorem dX7_move_5 : decode cX7_move 5 = .ok (.invokevirtual 125, 3) := by decide +kernel
theorem dX7_move_8 : decode cX7_move 8 = .ok (.ifCond .eq 15, 3) := by decide +kernel
theorem dX7_move_11 : decode cX7_move 11 = .ok (.aload_n 0, 1) := by decide +kernel
theorem dX7_move_12 : decode cX7_move 12 = .ok (.getfield 19, 3) := by decide +kernel
theorem dX7_move_15 : decode cX7_move 15 = .ok (.iload_n 2, 1) := by decide +kernel
theorem dX7_move_16 : decode cX7_move 16 = .ok (.iload_n 3, 1) := by decide +kernel
theorem dX7_move_17 : decode cX7_move 17 = .ok (.invokevirtual 137, 3) := by decide +kernel
theorem dX7_move_20 : decode cX7_move 20 = .ok (.ifCond .ne 5, 3) := by decide +kernel
theorem dX7_move_23 : decode cX7_move 23 = .ok (.iconst (-1), 1) := by decide +kernel
theorem dX7_move_24 : decode cX7_move 24 = .ok (.ireturn, 1) := by decide +kernel
theorem dX7_move_25 : decode cX7_move 25 = .ok (.aload_n 0, 1) := by decide +kernel
theorem dX7_move_26 : decode cX7_move 26 = .ok (.getfield 19, 3) := by decide +kernel
theorem dX7_move_29 : decode cX7_move 29 = .ok (.iload_n 2, 1) := by decide +kernel
theorem dX7_move_30 : decode cX7_move 30 = .ok (.iload_n 3, 1) := by decide +kernel
theorem dX7_move_31 : decode cX7_move 31 = .ok (.invokevirtual 141, 3) := by decide +kernel
theorem dX7_move_34 : decode cX7_move 34 = .ok (.bipush (-9), 2) := by decide +kernel
theorem dX7_move_36 : decode cX7_move 36 = .ok (.if_icmp .eq 6, 3) := by decide +kernel
theorem dX7_move_39 : decode cX7_move 39 = .ok (.bipush (-3), 2) := by decide +kernel
theorem dX7_move_41 : decode cX7_move 41 = .ok (.ireturn, 1) := by decide +kernel
theorem dX7_move_42 : decode cX7_move 42 = .ok (.aload_n 0, 1) := by decide +kernel
theorem dX7_move_43 : decode cX7_move 43 = .ok (.getfield 29, 3) := by decide +kernel
theorem dX7_move_46 : decode cX7_move 46 = .ok (.aload_n 0, 1) := by decide +kernel
theorem dX7_move_47 : decode cX7_move 47 = .ok (.getfield 19, 3) := by decide +kernel
theorem dX7_move_50 : decode cX7_move 50 = .ok (.invokevirtual 165, 3) := by decide +kernel
theorem dX7_move_53 : decode cX7_move 53 = .ok (.aload_n 0, 1) := by decide +kernel
theorem dX7_move_54 : decode cX7_move 54 = .ok (.getfield 19, 3) := by decide +kernel
theorem dX7_move_57 : decode cX7_move 57 = .ok (.iload_n 1, 1) := by decide +kernel
theorem dX7_move_58 : decode cX7_move 58 = .ok (.iload_n 2, 1) := by decide +kernel
theorem dX7_move_59 : decode cX7_move 59 = .ok (.iload_n 3, 1) := by decide +kernel
theorem dX7_move_60 : decode cX7_move 60 = .ok (.invokevirtual 175, 3) := by decide +kernel
theorem dX7_move_63 : decode cX7_move 63 = .ok (.aload_n 0, 1) := by decide +kernel
theorem dX7_move_64 : decode cX7_move 64 = .ok (.aload_n 0, 1) := by decide +kernel
theorem dX7_move_65 : decode cX7_move 65 = .ok (.getfield 19, 3) := by decide +kernel
theorem dX7_move_68 : decode cX7_move 68 = .ok (.invokevirtual 172, 3) := by decide +kernel
theorem dX7_move_71 : decode cX7_move 71 = .ok (.ireturn, 1) := by decide +kernel
theorem dX7_lay_0 : decode cX7_lay 0 = .ok (.iload_n 1, 1) := by decide +kernel
theorem dX7_lay_1 : decode cX7_lay 1 = .ok (.ifCond .lt 9, 3) := by decide +kernel
theorem dX7_lay_4 : decode cX7_lay 4 = .ok (.iload_n 1, 1) := by decide +kernel
theorem dX7_lay_5 : decode cX7_lay 5 = .ok (.bipush 6, 2) := by decide +kernel
theorem dX7_lay_7 : decode cX7_lay 7 = .ok (.if_icmp .lt 6, 3) := by decide +kernel
theorem dX7_lay_10 : decode cX7_lay 10 = .ok (.bipush (-2), 2) := by decide +kernel
theorem dX7_lay_12 : decode cX7_lay 12 = .ok (.ireturn, 1) := by decide +kernel
theorem dX7_lay_13 : decode cX7_lay 13 = .ok (.aload_n 0, 1) := by decide +kernel
theorem dX7_lay_14 : decode cX7_lay 14 = .ok (.getfield 19, 3) := by decide +kernel
theorem dX7_lay_17 : decode cX7_lay 17 = .ok (.iload_n 1, 1) := by decide +kernel
theorem dX7_lay_18 : decode cX7_lay 18 = .ok (.invokevirtual 179, 3) := by decide +kernel
theorem dX7_lay_21 : decode cX7_lay 21 = .ok (.aload_n 0, 1) := by decide +kernel
theorem dX7_lay_22 : decode cX7_lay 22 = .ok (.getfield 19, 3) := by decide +kernel
theorem dX7_lay_25 : decode cX7_lay 25 = .ok (.getfield 85, 3) := by decide +kernel
theorem dX7_lay_28 : decode cX7_lay 28 = .ok (.if_icmp .ge 6, 3) := by decide +kernel
theorem dX7_lay_31 : decode cX7_lay 31 = .ok (.bipush (-3), 2) := by decide +kernel
theorem dX7_lay_33 : decode cX7_lay 33 = .ok (.ireturn, 1) := by decide +kernel
theorem dX7_lay_34 : decode cX7_lay 34 = .ok (.aload_n 0, 1) := by decide +kernel
theorem dX7_lay_35 : decode cX7_lay 35 = .ok (.getfield 29, 3) := by decide +kernel
theorem dX7_lay_38 : decode cX7_lay 38 = .ok (.aload_n 0, 1) := by decide +kernel
theorem dX7_lay_39 : decode cX7_lay 39 = .ok (.getfield 19, 3) := by decide +kernel
theorem dX7_lay_42 : decode cX7_lay 42 = .ok (.invokevirtual 165, 3) := by decide +kernel
theorem dX7_lay_45 : decode cX7_lay 45 = .ok (.aload_n 0, 1) := by decide +kernel
theorem dX7_lay_46 : decode cX7_lay 46 = .ok (.getfield 19, 3) := by decide +kernel
theorem dX7_lay_49 : decode cX7_lay 49 = .ok (.iload_n 1, 1) := by decide +kernel
theorem dX7_lay_50 : decode cX7_lay 50 = .ok (.invokevirtual 182, 3) := by decide +kernel
theorem dX7_lay_53 : decode cX7_lay 53 = .ok (.aload_n 0, 1) := by decide +kernel
theorem dX7_lay_54 : decode cX7_lay 54 = .ok (.aload_n 0, 1) := by decide +kernel
theorem dX7_lay_55 : decode cX7_lay 55 = .ok (.getfield 19, 3) := by decide +kernel
theorem dX7_lay_58 : decode cX7_lay 58 = .ok (.invokevirtual 172, 3) := by decide +kernel
theorem dX7_lay_61 : decode cX7_lay 61 = .ok (.ireturn, 1) := by decide +kernel
theorem dX7_paint_0 : decode cX7_paint 0 = .ok (.iload_n 1, 1) := by decide +kernel
theorem dX7_paint_1 : decode cX7_paint 1 = .ok (.iload_n 2, 1) := by decide +kernel
theorem dX7_paint_2 : decode cX7_paint 2 = .ok (.invokestatic 154, 3) := by decide +kernel
theorem dX7_paint_5 : decode cX7_paint 5 = .ok (.ifCond .eq 14, 3) := by decide +kernel
theorem dX7_paint_8 : decode cX7_paint 8 = .ok (.aload_n 0, 1) := by decide +kernel
theorem dX7_paint_9 : decode cX7_paint 9 = .ok (.getfield 19, 3) := by decide +kernel
theorem dX7_paint_12 : decode cX7_paint 12 = .ok (.iload_n 3, 1) := by decide +kernel
theorem dX7_paint_13 : decode cX7_paint 13 = .ok (.invokevirtual 125, 3) := by decide +kernel
theorem dX7_paint_16 : decode cX7_paint 16 = .ok (.ifCond .ne 5, 3) := by decide +kernel
theorem dX7_paint_19 : decode cX7_paint 19 = .ok (.iconst (-1), 1) := by decide +kernel
theorem dX7_paint_20 : decode cX7_paint 20 = .ok (.ireturn, 1) := by decide +kernel
theorem dX7_paint_21 : decode cX7_paint 21 = .ok (.aload_n 0, 1) := by decide +kernel
theorem dX7_paint_22 : decode cX7_paint 22 = .ok (.getfield 29, 3) := by decide +kernel
theorem dX7_paint_25 : decode cX7_paint 25 = .ok (.aload_n 0, 1) := by decide +kernel
theorem dX7_paint_26 : decode cX7_paint 26 = .ok (.getfield 19, 3) := by decide +kernel
theorem dX7_paint_29 : decode cX7_paint 29 = .ok (.invokevirtual 165, 3) := by decide +kernel
theorem dX7_paint_32 : decode cX7_paint 32 = .ok (.aload_n 0, 1) := by decide +kernel
theorem dX7_paint_33 : decode cX7_paint 33 = .ok (.getfield 19, 3) := by decide +kernel
theorem dX7_paint_36 : decode cX7_paint 36 = .ok (.getfield 157, 3) := by decide +kernel
theorem dX7_paint_39 : decode cX7_paint 39 = .ok (.iload_n 1, 1) := by decide +kernel
theorem dX7_paint_40 : decode cX7_paint 40 = .ok (.iconst 4, 1) := by decide +kernel
theorem dX7_paint_41 : decode cX7_paint 41 = .ok (.imul, 1) := by decide +kernel
theorem dX7_paint_42 : decode cX7_paint 42 = .ok (.iload_n 2, 1) := by decide +kernel
theorem dX7_paint_43 : decode cX7_paint 43 = .ok (.iadd, 1) := by decide +kernel
theorem dX7_paint_44 : decode cX7_paint 44 = .ok (.iaload, 1) := by decide +kernel
theorem dX7_paint_45 : decode cX7_paint 45 = .ok (.istore 4, 2) := by decide +kernel
theorem dX7_paint_47 : decode cX7_paint 47 = .ok (.aload_n 0, 1) := by decide +kernel
theorem dX7_paint_48 : decode cX7_paint 48 = .ok (.getfield 19, 3) := by decide +kernel
theorem dX7_paint_51 : decode cX7_paint 51 = .ok (.getfield 157, 3) := by decide +kernel
theorem dX7_paint_54 : decode cX7_paint 54 = .ok (.iload_n 1, 1) := by decide +kernel
theorem dX7_paint_55 : decode cX7_paint 55 = .ok (.iconst 4, 1) := by decide +kernel
theorem dX7_paint_56 : decode cX7_paint 56 = .ok (.imul, 1) := by decide +kernel
theorem dX7_paint_57 : decode cX7_paint 57 = .ok (.iload_n 2, 1) := by decide +kernel
theorem dX7_paint_58 : decode cX7_paint 58 = .ok (.iadd, 1) := by decide +kernel
theorem dX7_paint_59 : decode cX7_paint 59 = .ok (.iload_n 3, 1) := by decide +kernel
theorem dX7_paint_60 : decode cX7_paint 60 = .ok (.iastore, 1) := by decide +kernel
theorem dX7_paint_61 : decode cX7_paint 61 = .ok (.iload 4, 2) := by decide +kernel
theorem dX7_paint_63 : decode cX7_paint 63 = .ok (.ireturn, 1) := by decide +kernel
theorem dX7_shift_0 : decode cX7_shift 0 = .ok (.iload_n 1, 1) := by decide +kernel
theorem dX7_shift_1 : decode cX7_shift 1 = .ok (.invokestatic 186, 3) := by decide +kernel
theorem dX7_shift_4 : decode cX7_shift 4 = .ok (.ifCond .ne 6, 3) := by decide +kernel
theorem dX7_shift_7 : decode cX7_shift 7 = .ok (.bipush (-2), 2) := by decide +kernel
theorem dX7_shift_9 : decode cX7_shift 9 = .ok (.ireturn, 1) := by decide +kernel
theorem dX7_shift_10 : decode cX7_shift 10 = .ok (.aload_n 0, 1) := by decide +kernel
theorem dX7_shift_11 : decode cX7_shift 11 = .ok (.getfield 29, 3) := by decide +kernel
theorem dX7_shift_14 : decode cX7_shift 14 = .ok (.aload_n 0, 1) := by decide +kernel
theorem dX7_shift_15 : decode cX7_shift 15 = .ok (.getfield 19, 3) := by decide +kernel
theorem dX7_shift_18 : decode cX7_shift 18 = .ok (.invokevirtual 165, 3) := by decide +kernel
theorem dX7_shift_21 : decode cX7_shift 21 = .ok (.aload_n 0, 1) := by decide +kernel
theorem dX7_shift_22 : decode cX7_shift 22 = .ok (.getfield 19, 3) := by decide +kernel
theorem dX7_shift_25 : decode cX7_shift 25 = .ok (.getfield 94, 3) := by decide +kernel
theorem dX7_shift_28 : decode cX7_shift 28 = .ok (.istore_n 2, 1) := by decide +kernel
theorem dX7_shift_29 : decode cX7_shift 29 = .ok (.aload_n 0, 1) := by decide +kernel
theorem dX7_shift_30 : decode cX7_shift 30 = .ok (.getfield 19, 3) := by decide +kernel
theorem dX7_shift_33 : decode cX7_shift 33 = .ok (.iload_n 1, 1) := by decide +kernel
theorem dX7_shift_34 : decode cX7_shift 34 = .ok (.putfield 94, 3) := by decide +kernel
theorem dX7_shift_37 : decode cX7_shift 37 = .ok (.iload_n 2, 1) := by decide +kernel
theorem dX7_shift_38 : decode cX7_shift 38 = .ok (.ireturn, 1) := by decide +kernel
theorem dX7_lose_0 : decode cX7_lose 0 = .ok (.iload_n 1, 1) := by decide +kernel
theorem dX7_lose_1 : decode cX7_lose 1 = .ok (.invokestatic 189, 3) := by decide +kernel
theorem dX7_lose_4 : decode cX7_lose 4 = .ok (.ifCond .ne 5, 3) := by decide +kernel
theorem dX7_lose_7 : decode cX7_lose 7 = .ok (.iconst (-1), 1) := by decide +kernel
theorem dX7_lose_8 : decode cX7_lose 8 = .ok (.ireturn, 1) := by decide +kernel
theorem dX7_lose_9 : decode cX7_lose 9 = .ok (.aload_n 0, 1) := by decide +kernel
theorem dX7_lose_10 : decode cX7_lose 10 = .ok (.getfield 29, 3) := by decide +kernel
theorem dX7_lose_13 : decode cX7_lose 13 = .ok (.aload_n 0, 1) := by decide +kernel
theorem dX7_lose_14 : decode cX7_lose 14 = .ok (.getfield 19, 3) := by decide +kernel
theorem dX7_lose_17 : decode cX7_lose 17 = .ok (.invokevirtual 165, 3) := by decide +kernel
theorem dX7_lose_20 : decode cX7_lose 20 = .ok (.aload_n 0, 1) := by decide +kernel
theorem dX7_lose_21 : decode cX7_lose 21 = .ok (.getfield 19, 3) := by decide +kernel
theorem dX7_lose_24 : decode cX7_lose 24 = .ok (.iload_n 1, 1) := by decide +kernel
theorem dX7_lose_25 : decode cX7_lose 25 = .ok (.invokevirtual 192, 3) := by decide +kernel
theorem dX7_lose_28 : decode cX7_lose 28 = .ok (.aload_n 0, 1) := by decide +kernel
theorem dX7_lose_29 : decode cX7_lose 29 = .ok (.getfield 19, 3) := by decide +kernel
theorem dX7_lose_32 : decode cX7_lose 32 = .ok (.getfield 97, 3) := by decide +kernel
theorem dX7_lose_35 : decode cX7_lose 35 = .ok (.iload_n 1, 1) := by decide +kernel
theorem dX7_lose_36 : decode cX7_lose 36 = .ok (.ishr, 1) := by decide +kernel
theorem dX7_lose_37 : decode cX7_lose 37 = .ok (.iconst 1, 1) := by decide +kernel
theorem dX7_lose_38 : decode cX7_lose 38 = .ok (.iand, 1) := by decide +kernel
theorem dX7_lose_39 : decode cX7_lose 39 = .ok (.ireturn, 1) := by decide +kernel
theorem dX7_undo_0 : decode cX7_undo 0 = .ok (.aload_n 0, 1) := by decide +kernel
theorem dX7_undo_1 : decode cX7_undo 1 = .ok (.getfield 29, 3) := by decide +kernel
theorem dX7_undo_4 : decode cX7_undo 4 = .ok (.aload_n 0, 1) := by decide +kernel
theorem dX7_undo_5 : decode cX7_undo 5 = .ok (.getfield 19, 3) := by decide +kernel
theorem dX7_undo_8 : decode cX7_undo 8 = .ok (.invokevirtual 195, 3) := by decide +kernel
theorem dX7_undo_11 : decode cX7_undo 11 = .ok (.ifCond .eq 13, 3) := by decide +kernel
theorem dX7_undo_14 : decode cX7_undo 14 = .ok (.aload_n 0, 1) := by decide +kernel
theorem dX7_undo_15 : decode cX7_undo 15 = .ok (.getfield 29, 3) := by decide +kernel
theorem dX7_undo_18 : decode cX7_undo 18 = .ok (.getfield 121, 3) := by decide +kernel
theorem dX7_undo_21 : decode cX7_undo 21 = .ok (.goto 5, 3) := by decide +kernel
theorem dX7_undo_24 : decode cX7_undo 24 = .ok (.bipush (-3), 2) := by decide +kernel
theorem dX7_undo_26 : decode cX7_undo 26 = .ok (.ireturn, 1) := by decide +kernel
theorem dX7_miss_0 : decode cX7_miss 0 = .ok (.iload_n 1, 1) := by decide +kernel
theorem dX7_miss_1 : decode cX7_miss 1 = .ok (.ifCond .lt 9, 3) := by decide +kernel
theorem dX7_miss_4 : decode cX7_miss 4 = .ok (.iload_n 1, 1) := by decide +kernel
theorem dX7_miss_5 : decode cX7_miss 5 = .ok (.bipush 16, 2) := by decide +kernel
theorem dX7_miss_7 : decode cX7_miss 7 = .ok (.if_icmp .lt 6, 3) := by decide +kernel
theorem dX7_miss_10 : decode cX7_miss 10 = .ok (.bipush (-2), 2) := by decide +kernel
theorem dX7_miss_12 : decode cX7_miss 12 = .ok (.ireturn, 1) := by decide +kernel
theorem dX7_miss_13 : decode cX7_miss 13 = .ok (.aload_n 0, 1) := by decide +kernel
theorem dX7_miss_14 : decode cX7_miss 14 = .ok (.getfield 57, 3) := by decide +kernel
theorem dX7_miss_17 : decode cX7_miss 17 = .ok (.aload_n 0, 1) := by decide +kernel
theorem dX7_miss_18 : decode cX7_miss 18 = .ok (.getfield 19, 3) := by decide +kernel
theorem dX7_miss_21 : decode cX7_miss 21 = .ok (.aload_n 0, 1) := by decide +kernel
theorem dX7_miss_22 : decode cX7_miss 22 = .ok (.getfield 19, 3) := by decide +kernel
theorem dX7_miss_25 : decode cX7_miss 25 = .ok (.getfield 94, 3) := by decide +kernel
theorem dX7_miss_28 : decode cX7_miss 28 = .ok (.iload_n 1, 1) := by decide +kernel
theorem dX7_miss_29 : decode cX7_miss 29 = .ok (.invokevirtual 104, 3) := by decide +kernel
theorem dX7_miss_32 : decode cX7_miss 32 = .ok (.ireturn, 1) := by decide +kernel
theorem dX7_judge_0 : decode cX7_judge 0 = .ok (.iload_n 1, 1) := by decide +kernel
theorem dX7_judge_1 : decode cX7_judge 1 = .ok (.iconst 1, 1) := by decide +kernel
theorem dX7_judge_2 : decode cX7_judge 2 = .ok (.if_icmp .lt 24, 3) := by decide +kernel
theorem dX7_judge_5 : decode cX7_judge 5 = .ok (.iload_n 1, 1) := by decide +kernel
theorem dX7_judge_6 : decode cX7_judge 6 = .ok (.iconst 4, 1) := by decide +kernel
theorem dX7_judge_7 : decode cX7_judge 7 = .ok (.if_icmp .gt 19, 3) := by decide +kernel
theorem dX7_judge_10 : decode cX7_judge 10 = .ok (.lload_n 2, 1) := by decide +kernel
theorem dX7_judge_11 : decode cX7_judge 11 = .ok (.lconst 0, 1) := by decide +kernel
theorem dX7_judge_12 : decode cX7_judge 12 = .ok (.lcmp, 1) := by decide +kernel
theorem dX7_judge_13 : decode cX7_judge 13 = .ok (.ifCond .lt 13, 3) := by decide +kernel
theorem dX7_judge_16 : decode cX7_judge 16 = .ok (.lload_n 2, 1) := by decide +kernel
theorem dX7_judge_17 : decode cX7_judge 17 = .ok (.getstatic 199, 3) := by decide +kernel
theorem dX7_judge_20 : decode cX7_judge 20 = .ok (.iload_n 1, 1) := by decide +kernel
theorem dX7_judge_21 : decode cX7_judge 21 = .ok (.laload, 1) := by decide +kernel
theorem dX7_judge_22 : decode cX7_judge 22 = .ok (.lcmp, 1) := by decide +kernel
theorem dX7_judge_23 : decode cX7_judge 23 = .ok (.ifCond .lt 6, 3) := by decide +kernel
theorem dX7_judge_26 : decode cX7_judge 26 = .ok (.bipush (-2), 2) := by decide +kernel
theorem dX7_judge_28 : decode cX7_judge 28 = .ok (.ireturn, 1) := by decide +kernel
theorem dX7_judge_29 : decode cX7_judge 29 = .ok (.aload_n 0, 1) := by decide +kernel
theorem dX7_judge_30 : decode cX7_judge 30 = .ok (.getfield 23, 3) := by decide +kernel
theorem dX7_judge_33 : decode cX7_judge 33 = .ok (.aload_n 0, 1) := by decide +kernel
theorem dX7_judge_34 : decode cX7_judge 34 = .ok (.getfield 19, 3) := by decide +kernel
theorem dX7_judge_37 : decode cX7_judge 37 = .ok (.invokevirtual 77, 3) := by decide +kernel
theorem dX7_judge_40 : decode cX7_judge 40 = .ok (.iconst 0, 1) := by decide +kernel
theorem dX7_judge_41 : decode cX7_judge 41 = .ok (.istore 4, 2) := by decide +kernel
theorem dX7_judge_43 : decode cX7_judge 43 = .ok (.iload 4, 2) := by decide +kernel
theorem dX7_judge_45 : decode cX7_judge 45 = .ok (.iload_n 1, 1) := by decide +kernel
theorem dX7_judge_46 : decode cX7_judge 46 = .ok (.if_icmp .ge 56, 3) := by decide +kernel
theorem dX7_judge_49 : decode cX7_judge 49 = .ok (.lload_n 2, 1) := by decide +kernel
theorem dX7_judge_50 : decode cX7_judge 50 = .ok (.getstatic 199, 3) := by decide +kernel
theorem dX7_judge_53 : decode cX7_judge 53 = .ok (.iload_n 1, 1) := by decide +kernel
theorem dX7_judge_54 : decode cX7_judge 54 = .ok (.iconst 1, 1) := by decide +kernel
theorem dX7_judge_55 : decode cX7_judge 55 = .ok (.isub, 1) := by decide +kernel
theorem dX7_judge_56 : decode cX7_judge 56 = .ok (.iload 4, 2) := by decide +kernel
theorem dX7_judge_58 : decode cX7_judge 58 = .ok (.isub, 1) := by decide +kernel
theorem dX7_judge_59 : decode cX7_judge 59 = .ok (.laload, 1) := by decide +kernel
theorem dX7_judge_60 : decode cX7_judge 60 = .ok (.ldiv, 1) := by decide +kernel
theorem dX7_judge_61 : decode cX7_judge 61 = .ok (.ldc2_w 203, 3) := by decide +kernel
theorem dX7_judge_64 : decode cX7_judge 64 = .ok (.lrem, 1) := by decide +kernel
theorem dX7_judge_65 : decode cX7_judge 65 = .ok (.l2i, 1) := by decide +kernel
theorem dX7_judge_66 : decode cX7_judge 66 = .ok (.istore 5, 2) := by decide +kernel
theorem dX7_judge_68 : decode cX7_judge 68 = .ok (.aload_n 0, 1) := by decide +kernel
theorem dX7_judge_69 : decode cX7_judge 69 = .ok (.iload 5, 2) := by decide +kernel
theorem dX7_judge_71 : decode cX7_judge 71 = .ok (.bipush 100, 2) := by decide +kernel
theorem dX7_judge_73 : decode cX7_judge 73 = .ok (.idiv, 1) := by decide +kernel
theorem dX7_judge_74 : decode cX7_judge 74 = .ok (.iload 5, 2) := by decide +kernel
theorem dX7_judge_76 : decode cX7_judge 76 = .ok (.bipush 10, 2) := by decide +kernel
theorem dX7_judge_78 : decode cX7_judge 78 = .ok (.idiv, 1) := by decide +kernel
theorem dX7_judge_79 : decode cX7_judge 79 = .ok (.bipush 10, 2) := by decide +kernel
theorem dX7_judge_81 : decode cX7_judge 81 = .ok (.irem, 1) := by decide +kernel
theorem dX7_judge_82 : decode cX7_judge 82 = .ok (.iload 5, 2) := by decide +kernel
theorem dX7_judge_84 : decode cX7_judge 84 = .ok (.bipush 10, 2) := by decide +kernel
theorem dX7_judge_86 : decode cX7_judge 86 = .ok (.irem, 1) := by decide +kernel
theorem dX7_judge_87 : decode cX7_judge 87 = .ok (.invokevirtual 205, 3) := by decide +kernel
theorem dX7_judge_90 : decode cX7_judge 90 = .ok (.ifCond .ne 6, 3) := by decide +kernel
theorem dX7_judge_93 : decode cX7_judge 93 = .ok (.iload 4, 2) := by decide +kernel
theorem dX7_judge_95 : decode cX7_judge 95 = .ok (.ireturn, 1) := by decide +kernel
theorem dX7_judge_96 : decode cX7_judge 96 = .ok (.iinc 4 1, 3) := by decide +kernel
theorem dX7_judge_99 : decode cX7_judge 99 = .ok (.goto (-56), 3) := by decide +kernel
theorem dX7_judge_102 : decode cX7_judge 102 = .ok (.bipush (-9), 2) := by decide +kernel
theorem dX7_judge_104 : decode cX7_judge 104 = .ok (.ireturn, 1) := by decide +kernel
theorem dX7_see_0 : decode cX7_see 0 = .ok (.iload_n 1, 1) := by decide +kernel
theorem dX7_see_1 : decode cX7_see 1 = .ok (.iload_n 2, 1) := by decide +kernel
theorem dX7_see_2 : decode cX7_see 2 = .ok (.invokestatic 154, 3) := by decide +kernel
theorem dX7_see_5 : decode cX7_see 5 = .ok (.ifCond .ne 5, 3) := by decide +kernel
theorem dX7_see_8 : decode cX7_see 8 = .ok (.iconst (-1), 1) := by decide +kernel
theorem dX7_see_9 : decode cX7_see 9 = .ok (.ireturn, 1) := by decide +kernel
theorem dX7_see_10 : decode cX7_see 10 = .ok (.iload_n 3, 1) := by decide +kernel
theorem dX7_see_11 : decode cX7_see 11 = .ok (.ifCond .lt 9, 3) := by decide +kernel
theorem dX7_see_14 : decode cX7_see 14 = .ok (.iload_n 3, 1) := by decide +kernel
theorem dX7_see_15 : decode cX7_see 15 = .ok (.bipush 20, 2) := by decide +kernel
theorem dX7_see_17 : decode cX7_see 17 = .ok (.if_icmp .lt 6, 3) := by decide +kernel
theorem dX7_see_20 : decode cX7_see 20 = .ok (.bipush (-2), 2) := by decide +kernel
theorem dX7_see_22 : decode cX7_see 22 = .ok (.ireturn, 1) := by decide +kernel
theorem dX7_see_23 : decode cX7_see 23 = .ok (.aload_n 0, 1) := by decide +kernel
theorem dX7_see_24 : decode cX7_see 24 = .ok (.getfield 43, 3) := by decide +kernel
theorem dX7_see_27 : decode cX7_see 27 = .ok (.iload_n 1, 1) := by decide +kernel
theorem dX7_see_28 : decode cX7_see 28 = .ok (.iconst 4, 1) := by decide +kernel
theorem dX7_see_29 : decode cX7_see 29 = .ok (.imul, 1) := by decide +kernel
theorem dX7_see_30 : decode cX7_see 30 = .ok (.iload_n 2, 1) := by decide +kernel
theorem dX7_see_31 : decode cX7_see 31 = .ok (.iadd, 1) := by decide +kernel
theorem dX7_see_32 : decode cX7_see 32 = .ok (.iload_n 3, 1) := by decide +kernel
theorem dX7_see_33 : decode cX7_see 33 = .ok (.invokevirtual 209, 3) := by decide +kernel
theorem dX7_see_36 : decode cX7_see 36 = .ok (.ifCond .eq 13, 3) := by decide +kernel
theorem dX7_see_39 : decode cX7_see 39 = .ok (.aload_n 0, 1) := by decide +kernel
theorem dX7_see_40 : decode cX7_see 40 = .ok (.getfield 43, 3) := by decide +kernel
theorem dX7_see_43 : decode cX7_see 43 = .ok (.getfield 124, 3) := by decide +kernel
theorem dX7_see_46 : decode cX7_see 46 = .ok (.goto 5, 3) := by decide +kernel
theorem dX7_see_49 : decode cX7_see 49 = .ok (.bipush (-4), 2) := by decide +kernel
theorem dX7_see_51 : decode cX7_see 51 = .ok (.ireturn, 1) := by decide +kernel
theorem dX7_unsee_0 : decode cX7_unsee 0 = .ok (.aload_n 0, 1) := by decide +kernel
theorem dX7_unsee_1 : decode cX7_unsee 1 = .ok (.getfield 43, 3) := by decide +kernel
theorem dX7_unsee_4 : decode cX7_unsee 4 = .ok (.getfield 124, 3) := by decide +kernel
theorem dX7_unsee_7 : decode cX7_unsee 7 = .ok (.istore_n 1, 1) := by decide +kernel
theorem dX7_unsee_8 : decode cX7_unsee 8 = .ok (.aload_n 0, 1) := by decide +kernel
theorem dX7_unsee_9 : decode cX7_unsee 9 = .ok (.getfield 43, 3) := by decide +kernel
theorem dX7_unsee_12 : decode cX7_unsee 12 = .ok (.iconst 0, 1) := by decide +kernel
theorem dX7_unsee_13 : decode cX7_unsee 13 = .ok (.putfield 124, 3) := by decide +kernel
theorem dX7_unsee_16 : decode cX7_unsee 16 = .ok (.iload_n 1, 1) := by decide +kernel
theorem dX7_unsee_17 : decode cX7_unsee 17 = .ok (.ireturn, 1) := by decide +kernel
theorem dX7_which_0 : decode cX7_which 0 = .ok (.iconst 0, 1) := by decide +kernel
theorem dX7_which_1 : decode cX7_which 1 = .ok (.istore_n 1, 1) := by decide +kernel
theorem dX7_which_2 : decode cX7_which 2 = .ok (.iconst 0, 1) := by decide +kernel
theorem dX7_which_3 : decode cX7_which 3 = .ok (.istore_n 2, 1) := by decide +kernel
theorem dX7_which_4 : decode cX7_which 4 = .ok (.iload_n 2, 1) := by decide +kernel
theorem dX7_which_5 : decode cX7_which 5 = .ok (.bipush 16, 2) := by decide +kernel
theorem dX7_which_7 : decode cX7_which 7 = .ok (.if_icmp .ge 48, 3) := by decide +kernel
theorem dX7_which_10 : decode cX7_which 10 = .ok (.aload_n 0, 1) := by decide +kernel
theorem dX7_which_11 : decode cX7_which 11 = .ok (.getfield 57, 3) := by decide +kernel
theorem dX7_which_14 : decode cX7_which 14 = .ok (.aload_n 0, 1) := by decide +kernel
theorem dX7_which_15 : decode cX7_which 15 = .ok (.getfield 19, 3) := by decide +kernel
theorem dX7_which_18 : decode cX7_which 18 = .ok (.aload_n 0, 1) := by decide +kernel
theorem dX7_which_19 : decode cX7_which 19 = .ok (.getfield 19, 3) := by decide +kernel
theorem dX7_which_22 : decode cX7_which 22 = .ok (.getfield 94, 3) := by decide +kernel
theorem dX7_which_25 : decode cX7_which 25 = .ok (.iload_n 2, 1) := by decide +kernel
theorem dX7_which_26 : decode cX7_which 26 = .ok (.invokevirtual 160, 3) := by decide +kernel
theorem dX7_which_29 : decode cX7_which 29 = .ok (.aload_n 0, 1) := by decide +kernel
theorem dX7_which_30 : decode cX7_which 30 = .ok (.getfield 43, 3) := by decide +kernel
theorem dX7_which_33 : decode cX7_which 33 = .ok (.aload_n 0, 1) := by decide +kernel
theorem dX7_which_34 : decode cX7_which 34 = .ok (.getfield 57, 3) := by decide +kernel
theorem dX7_which_37 : decode cX7_which 37 = .ok (.invokevirtual 211, 3) := by decide +kernel
theorem dX7_which_40 : decode cX7_which 40 = .ok (.ifCond .eq 9, 3) := by decide +kernel
theorem dX7_which_43 : decode cX7_which 43 = .ok (.iload_n 1, 1) := by decide +kernel
theorem dX7_which_44 : decode cX7_which 44 = .ok (.iconst 1, 1) := by decide +kernel
theorem dX7_which_45 : decode cX7_which 45 = .ok (.iload_n 2, 1) := by decide +kernel
theorem dX7_which_46 : decode cX7_which 46 = .ok (.ishl, 1) := by decide +kernel
theorem dX7_which_47 : decode cX7_which 47 = .ok (.ior, 1) := by decide +kernel
theorem dX7_which_48 : decode cX7_which 48 = .ok (.istore_n 1, 1) := by decide +kernel
theorem dX7_which_49 : decode cX7_which 49 = .ok (.iinc 2 1, 3) := by decide +kernel
theorem dX7_which_52 : decode cX7_which 52 = .ok (.goto (-48), 3) := by decide +kernel
theorem dX7_which_55 : decode cX7_which 55 = .ok (.iload_n 1, 1) := by decide +kernel
theorem dX7_which_56 : decode cX7_which 56 = .ok (.ireturn, 1) := by decide +kernel
theorem dX7_share_0 : decode cX7_share 0 = .ok (.iload_n 1, 1) := by decide +kernel
theorem dX7_share_1 : decode cX7_share 1 = .ok (.invokestatic 189, 3) := by decide +kernel
theorem dX7_share_4 : decode cX7_share 4 = .ok (.ifCond .ne 5, 3) := by decide +kernel
theorem dX7_share_7 : decode cX7_share 7 = .ok (.iconst (-1), 1) := by decide +kernel
theorem dX7_share_8 : decode cX7_share 8 = .ok (.ireturn, 1) := by decide +kernel
theorem dX7_share_9 : decode cX7_share 9 = .ok (.aload_n 0, 1) := by decide +kernel
theorem dX7_share_10 : decode cX7_share 10 = .ok (.invokevirtual 215, 3) := by decide +kernel
theorem dX7_share_13 : decode cX7_share 13 = .ok (.iconst 1, 1) := by decide +kernel
theorem dX7_share_14 : decode cX7_share 14 = .ok (.iload_n 1, 1) := by decide +kernel
theorem dX7_share_15 : decode cX7_share 15 = .ok (.ishl, 1) := by decide +kernel
theorem dX7_share_16 : decode cX7_share 16 = .ok (.istore_n 3, 1) := by decide +kernel
theorem dX7_share_17 : decode cX7_share 17 = .ok (.iconst 0, 1) := by decide +kernel
theorem dX7_share_18 : decode cX7_share 18 = .ok (.istore 4, 2) := by decide +kernel
theorem dX7_share_20 : decode cX7_share 20 = .ok (.iconst 0, 1) := by decide +kernel
theorem dX7_share_21 : decode cX7_share 21 = .ok (.istore 5, 2) := by decide +kernel
theorem dX7_share_23 : decode cX7_share 23 = .ok (.iload 5, 2) := by decide +kernel
theorem dX7_share_25 : decode cX7_share 25 = .ok (.bipush 16, 2) := by decide +kernel
theorem dX7_share_27 : decode cX7_share 27 = .ok (.if_icmp .ge 52, 3) := by decide +kernel
theorem dX7_share_30 : decode cX7_share 30 = .ok (.iload 5, 2) := by decide +kernel
theorem dX7_share_32 : decode cX7_share 32 = .ok (.iload_n 3, 1) := by decide +kernel
theorem dX7_share_33 : decode cX7_share 33 = .ok (.iand, 1) := by decide +kernel
theorem dX7_share_34 : decode cX7_share 34 = .ok (.ifCond .eq 39, 3) := by decide +kernel
theorem dX7_share_37 : decode cX7_share 37 = .ok (.getstatic 218, 3) := by decide +kernel
theorem dX7_share_40 : decode cX7_share 40 = .ok (.iload 5, 2) := by decide +kernel
theorem dX7_share_42 : decode cX7_share 42 = .ok (.invokestatic 221, 3) := by decide +kernel
theorem dX7_share_45 : decode cX7_share 45 = .ok (.iaload, 1) := by decide +kernel
theorem dX7_share_46 : decode cX7_share 46 = .ok (.istore 6, 2) := by decide +kernel
theorem dX7_share_48 : decode cX7_share 48 = .ok (.iload 4, 2) := by decide +kernel
theorem dX7_share_50 : decode cX7_share 50 = .ok (.iload 6, 2) := by decide +kernel
theorem dX7_share_52 : decode cX7_share 52 = .ok (.aload_n 0, 1) := by decide +kernel
theorem dX7_share_53 : decode cX7_share 53 = .ok (.getfield 61, 3) := by decide +kernel
theorem dX7_share_56 : decode cX7_share 56 = .ok (.iload 5, 2) := by decide +kernel
theorem dX7_share_58 : decode cX7_share 58 = .ok (.iaload, 1) := by decide +kernel
theorem dX7_share_59 : decode cX7_share 59 = .ok (.aload_n 0, 1) := by decide +kernel
theorem dX7_share_60 : decode cX7_share 60 = .ok (.getfield 61, 3) := by decide +kernel
theorem dX7_share_63 : decode cX7_share 63 = .ok (.iload 5, 2) := by decide +kernel
theorem dX7_share_65 : decode cX7_share 65 = .ok (.iload_n 3, 1) := by decide +kernel
theorem dX7_share_66 : decode cX7_share 66 = .ok (.ixor, 1) := by decide +kernel
theorem dX7_share_67 : decode cX7_share 67 = .ok (.iaload, 1) := by decide +kernel
theorem dX7_share_68 : decode cX7_share 68 = .ok (.isub, 1) := by decide +kernel
theorem dX7_share_69 : decode cX7_share 69 = .ok (.imul, 1) := by decide +kernel
theorem dX7_share_70 : decode cX7_share 70 = .ok (.iadd, 1) := by decide +kernel
theorem dX7_share_71 : decode cX7_share 71 = .ok (.istore 4, 2) := by decide +kernel
theorem dX7_share_73 : decode cX7_share 73 = .ok (.iinc 5 1, 3) := by decide +kernel
theorem dX7_share_76 : decode cX7_share 76 = .ok (.goto (-53), 3) := by decide +kernel
theorem dX7_share_79 : decode cX7_share 79 = .ok (.iload 4, 2) := by decide +kernel
theorem dX7_share_81 : decode cX7_share 81 = .ok (.bipush 24, 2) := by decide +kernel
theorem dX7_share_83 : decode cX7_share 83 = .ok (.iload_n 2, 1) := by decide +kernel
theorem dX7_share_84 : decode cX7_share 84 = .ok (.invokestatic 226, 3) := by decide +kernel
theorem dX7_share_87 : decode cX7_share 87 = .ok (.ireturn, 1) := by decide +kernel
theorem dX7_chance_0 : decode cX7_chance 0 = .ok (.iload_n 1, 1) := by decide +kernel
theorem dX7_chance_1 : decode cX7_chance 1 = .ok (.ifCond .lt 17, 3) := by decide +kernel
theorem dX7_chance_4 : decode cX7_chance 4 = .ok (.iload_n 1, 1) := by decide +kernel
theorem dX7_chance_5 : decode cX7_chance 5 = .ok (.sipush 9999, 3) := by decide +kernel
theorem dX7_chance_8 : decode cX7_chance 8 = .ok (.if_icmp .gt 10, 3) := by decide +kernel
theorem dX7_chance_11 : decode cX7_chance 11 = .ok (.iload_n 2, 1) := by decide +kernel
theorem dX7_chance_12 : decode cX7_chance 12 = .ok (.invokestatic 230, 3) := by decide +kernel
theorem dX7_chance_15 : decode cX7_chance 15 = .ok (.ifCond .ne 6, 3) := by decide +kernel
theorem dX7_chance_18 : decode cX7_chance 18 = .ok (.bipush (-2), 2) := by decide +kernel
theorem dX7_chance_20 : decode cX7_chance 20 = .ok (.ireturn, 1) := by decide +kernel
theorem dX7_chance_21 : decode cX7_chance 21 = .ok (.aload_n 0, 1) := by decide +kernel
theorem dX7_chance_22 : decode cX7_chance 22 = .ok (.invokevirtual 215, 3) := by decide +kernel
theorem dX7_chance_25 : decode cX7_chance 25 = .ok (.iconst 0, 1) := by decide +kernel
theorem dX7_chance_26 : decode cX7_chance 26 = .ok (.istore 4, 2) := by decide +kernel
theorem dX7_chance_28 : decode cX7_chance 28 = .ok (.iconst 0, 1) := by decide +kernel
theorem dX7_chance_29 : decode cX7_chance 29 = .ok (.istore 5, 2) := by decide +kernel
theorem dX7_chance_31 : decode cX7_chance 31 = .ok (.iload 5, 2) := by decide +kernel
theorem dX7_chance_33 : decode cX7_chance 33 = .ok (.bipush 16, 2) := by decide +kernel
theorem dX7_chance_35 : decode cX7_chance 35 = .ok (.if_icmp .ge 31, 3) := by decide +kernel
theorem dX7_chance_38 : decode cX7_chance 38 = .ok (.aload_n 0, 1) := by decide +kernel
theorem dX7_chance_39 : decode cX7_chance 39 = .ok (.getfield 61, 3) := by decide +kernel
theorem dX7_chance_42 : decode cX7_chance 42 = .ok (.iload 5, 2) := by decide +kernel
theorem dX7_chance_44 : decode cX7_chance 44 = .ok (.iaload, 1) := by decide +kernel
theorem dX7_chance_45 : decode cX7_chance 45 = .ok (.iload_n 1, 1) := by decide +kernel
theorem dX7_chance_46 : decode cX7_chance 46 = .ok (.if_icmp .gt 14, 3) := by decide +kernel
theorem dX7_chance_49 : decode cX7_chance 49 = .ok (.iload 4, 2) := by decide +kernel
theorem dX7_chance_51 : decode cX7_chance 51 = .ok (.iload 5, 2) := by decide +kernel
theorem dX7_chance_53 : decode cX7_chance 53 = .ok (.iload_n 2, 1) := by decide +kernel
theorem dX7_chance_54 : decode cX7_chance 54 = .ok (.invokestatic 233, 3) := by decide +kernel
theorem dX7_chance_57 : decode cX7_chance 57 = .ok (.iadd, 1) := by decide +kernel
theorem dX7_chance_58 : decode cX7_chance 58 = .ok (.istore 4, 2) := by decide +kernel
theorem dX7_chance_60 : decode cX7_chance 60 = .ok (.iinc 5 1, 3) := by decide +kernel
theorem dX7_chance_63 : decode cX7_chance 63 = .ok (.goto (-32), 3) := by decide +kernel
theorem dX7_chance_66 : decode cX7_chance 66 = .ok (.iload 4, 2) := by decide +kernel
theorem dX7_chance_68 : decode cX7_chance 68 = .ok (.sipush 10000, 3) := by decide +kernel
theorem dX7_chance_71 : decode cX7_chance 71 = .ok (.iload_n 3, 1) := by decide +kernel
theorem dX7_chance_72 : decode cX7_chance 72 = .ok (.invokestatic 226, 3) := by decide +kernel
theorem dX7_chance_75 : decode cX7_chance 75 = .ok (.ireturn, 1) := by decide +kernel
theorem dX7_mean_0 : decode cX7_mean 0 = .ok (.iload_n 1, 1) := by decide +kernel
theorem dX7_mean_1 : decode cX7_mean 1 = .ok (.invokestatic 230, 3) := by decide +kernel
theorem dX7_mean_4 : decode cX7_mean 4 = .ok (.ifCond .ne 6, 3) := by decide +kernel
theorem dX7_mean_7 : decode cX7_mean 7 = .ok (.bipush (-2), 2) := by decide +kernel
theorem dX7_mean_9 : decode cX7_mean 9 = .ok (.ireturn, 1) := by decide +kernel
theorem dX7_mean_10 : decode cX7_mean 10 = .ok (.aload_n 0, 1) := by decide +kernel
theorem dX7_mean_11 : decode cX7_mean 11 = .ok (.invokevirtual 215, 3) := by decide +kernel
theorem dX7_mean_14 : decode cX7_mean 14 = .ok (.iconst 0, 1) := by decide +kernel
theorem dX7_mean_15 : decode cX7_mean 15 = .ok (.istore_n 3, 1) := by decide +kernel
theorem dX7_mean_16 : decode cX7_mean 16 = .ok (.iconst 0, 1) := by decide +kernel
theorem dX7_mean_17 : decode cX7_mean 17 = .ok (.istore 4, 2) := by decide +kernel
theorem dX7_mean_19 : decode cX7_mean 19 = .ok (.iload 4, 2) := by decide +kernel
theorem dX7_mean_21 : decode cX7_mean 21 = .ok (.bipush 16, 2) := by decide +kernel
theorem dX7_mean_23 : decode cX7_mean 23 = .ok (.if_icmp .ge 26, 3) := by decide +kernel
theorem dX7_mean_26 : decode cX7_mean 26 = .ok (.iload_n 3, 1) := by decide +kernel
theorem dX7_mean_27 : decode cX7_mean 27 = .ok (.iload 4, 2) := by decide +kernel
theorem dX7_mean_29 : decode cX7_mean 29 = .ok (.iload_n 1, 1) := by decide +kernel
theorem dX7_mean_30 : decode cX7_mean 30 = .ok (.invokestatic 233, 3) := by decide +kernel
theorem dX7_mean_33 : decode cX7_mean 33 = .ok (.aload_n 0, 1) := by decide +kernel
theorem dX7_mean_34 : decode cX7_mean 34 = .ok (.getfield 61, 3) := by decide +kernel
theorem dX7_mean_37 : decode cX7_mean 37 = .ok (.iload 4, 2) := by decide +kernel
theorem dX7_mean_39 : decode cX7_mean 39 = .ok (.iaload, 1) := by decide +kernel
theorem dX7_mean_40 : decode cX7_mean 40 = .ok (.imul, 1) := by decide +kernel
theorem dX7_mean_41 : decode cX7_mean 41 = .ok (.iadd, 1) := by decide +kernel
theorem dX7_mean_42 : decode cX7_mean 42 = .ok (.istore_n 3, 1) := by decide +kernel
theorem dX7_mean_43 : decode cX7_mean 43 = .ok (.iinc 4 1, 3) := by decide +kernel
theorem dX7_mean_46 : decode cX7_mean 46 = .ok (.goto (-27), 3) := by decide +kernel
theorem dX7_mean_49 : decode cX7_mean 49 = .ok (.iload_n 3, 1) := by decide +kernel
theorem dX7_mean_50 : decode cX7_mean 50 = .ok (.sipush 10000, 3) := by decide +kernel
theorem dX7_mean_53 : decode cX7_mean 53 = .ok (.iload_n 2, 1) := by decide +kernel
theorem dX7_mean_54 : decode cX7_mean 54 = .ok (.invokestatic 226, 3) := by decide +kernel
theorem dX7_mean_57 : decode cX7_mean 57 = .ok (.ireturn, 1) := by decide +kernel
theorem dX7_seed_0 : decode cX7_seed 0 = .ok (.aload_n 0, 1) := by decide +kernel
theorem dX7_seed_1 : decode cX7_seed 1 = .ok (.getfield 236, 3) := by decide +kernel
theorem dX7_seed_4 : decode cX7_seed 4 = .ok (.lstore_n 3, 1) := by decide +kernel
theorem dX7_seed_5 : decode cX7_seed 5 = .ok (.aload_n 0, 1) := by decide +kernel
theorem dX7_seed_6 : decode cX7_seed 6 = .ok (.lload_n 1, 1) := by decide +kernel
theorem dX7_seed_7 : decode cX7_seed 7 = .ok (.putfield 236, 3) := by decide +kernel
theorem dX7_seed_10 : decode cX7_seed 10 = .ok (.lload_n 3, 1) := by decide +kernel
theorem dX7_seed_11 : decode cX7_seed 11 = .ok (.lreturn, 1) := by decide +kernel
theorem dX7_drawn_0 : decode cX7_drawn 0 = .ok (.iload_n 1, 1) := by decide +kernel
theorem dX7_drawn_1 : decode cX7_drawn 1 = .ok (.iconst 1, 1) := by decide +kernel
theorem dX7_drawn_2 : decode cX7_drawn 2 = .ok (.if_icmp .lt 9, 3) := by decide +kernel
theorem dX7_drawn_5 : decode cX7_drawn 5 = .ok (.iload_n 1, 1) := by decide +kernel
theorem dX7_drawn_6 : decode cX7_drawn 6 = .ok (.bipush 20, 2) := by decide +kernel
theorem dX7_drawn_8 : decode cX7_drawn 8 = .ok (.if_icmp .le 6, 3) := by decide +kernel
theorem dX7_drawn_11 : decode cX7_drawn 11 = .ok (.bipush (-2), 2) := by decide +kernel
theorem dX7_drawn_13 : decode cX7_drawn 13 = .ok (.ireturn, 1) := by decide +kernel
theorem dX7_drawn_14 : decode cX7_drawn 14 = .ok (.aload_n 0, 1) := by decide +kernel
theorem dX7_drawn_15 : decode cX7_drawn 15 = .ok (.getfield 23, 3) := by decide +kernel
theorem dX7_drawn_18 : decode cX7_drawn 18 = .ok (.aload_n 0, 1) := by decide +kernel
theorem dX7_drawn_19 : decode cX7_drawn 19 = .ok (.getfield 19, 3) := by decide +kernel
theorem dX7_drawn_22 : decode cX7_drawn 22 = .ok (.invokevirtual 77, 3) := by decide +kernel
theorem dX7_drawn_25 : decode cX7_drawn 25 = .ok (.iconst 0, 1) := by decide +kernel
theorem dX7_drawn_26 : decode cX7_drawn 26 = .ok (.istore_n 2, 1) := by decide +kernel
theorem dX7_drawn_27 : decode cX7_drawn 27 = .ok (.iconst 0, 1) := by decide +kernel
theorem dX7_drawn_28 : decode cX7_drawn 28 = .ok (.istore_n 3, 1) := by decide +kernel
theorem dX7_drawn_29 : decode cX7_drawn 29 = .ok (.iload_n 3, 1) := by decide +kernel
theorem dX7_drawn_30 : decode cX7_drawn 30 = .ok (.iload_n 1, 1) := by decide +kernel
theorem dX7_drawn_31 : decode cX7_drawn 31 = .ok (.if_icmp .ge 68, 3) := by decide +kernel
theorem dX7_drawn_34 : decode cX7_drawn 34 = .ok (.aload_n 0, 1) := by decide +kernel
theorem dX7_drawn_35 : decode cX7_drawn 35 = .ok (.aload_n 0, 1) := by decide +kernel
theorem dX7_drawn_36 : decode cX7_drawn 36 = .ok (.getfield 236, 3) := by decide +kernel
theorem dX7_drawn_39 : decode cX7_drawn 39 = .ok (.ldc2_w 240, 3) := by decide +kernel
theorem dX7_drawn_42 : decode cX7_drawn 42 = .ok (.lmul, 1) := by decide +kernel
theorem dX7_drawn_43 : decode cX7_drawn 43 = .ok (.ldc2_w 242, 3) := by decide +kernel
theorem dX7_drawn_46 : decode cX7_drawn 46 = .ok (.ladd, 1) := by decide +kernel
theorem dX7_drawn_47 : decode cX7_drawn 47 = .ok (.putfield 236, 3) := by decide +kernel
theorem dX7_drawn_50 : decode cX7_drawn 50 = .ok (.aload_n 0, 1) := by decide +kernel
theorem dX7_drawn_51 : decode cX7_drawn 51 = .ok (.getfield 23, 3) := by decide +kernel
theorem dX7_drawn_54 : decode cX7_drawn 54 = .ok (.aload_n 0, 1) := by decide +kernel
theorem dX7_drawn_55 : decode cX7_drawn 55 = .ok (.getfield 236, 3) := by decide +kernel
theorem dX7_drawn_58 : decode cX7_drawn 58 = .ok (.bipush 33, 2) := by decide +kernel
theorem dX7_drawn_60 : decode cX7_drawn 60 = .ok (.lushr, 1) := by decide +kernel
theorem dX7_drawn_61 : decode cX7_drawn 61 = .ok (.l2i, 1) := by decide +kernel
theorem dX7_drawn_62 : decode cX7_drawn 62 = .ok (.invokevirtual 244, 3) := by decide +kernel
theorem dX7_drawn_65 : decode cX7_drawn 65 = .ok (.iload_n 2, 1) := by decide +kernel
theorem dX7_drawn_66 : decode cX7_drawn 66 = .ok (.aload_n 0, 1) := by decide +kernel
theorem dX7_drawn_67 : decode cX7_drawn 67 = .ok (.getfield 57, 3) := by decide +kernel
theorem dX7_drawn_70 : decode cX7_drawn 70 = .ok (.aload_n 0, 1) := by decide +kernel
theorem dX7_drawn_71 : decode cX7_drawn 71 = .ok (.getfield 23, 3) := by decide +kernel
theorem dX7_drawn_74 : decode cX7_drawn 74 = .ok (.aload_n 0, 1) := by decide +kernel
theorem dX7_drawn_75 : decode cX7_drawn 75 = .ok (.getfield 23, 3) := by decide +kernel
theorem dX7_drawn_78 : decode cX7_drawn 78 = .ok (.getfield 94, 3) := by decide +kernel
theorem dX7_drawn_81 : decode cX7_drawn 81 = .ok (.aload_n 0, 1) := by decide +kernel
theorem dX7_drawn_82 : decode cX7_drawn 82 = .ok (.getfield 23, 3) := by decide +kernel
theorem dX7_drawn_85 : decode cX7_drawn 85 = .ok (.getfield 97, 3) := by decide +kernel
theorem dX7_drawn_88 : decode cX7_drawn 88 = .ok (.invokevirtual 104, 3) := by decide +kernel
theorem dX7_drawn_91 : decode cX7_drawn 91 = .ok (.iadd, 1) := by decide +kernel
theorem dX7_drawn_92 : decode cX7_drawn 92 = .ok (.istore_n 2, 1) := by decide +kernel
theorem dX7_drawn_93 : decode cX7_drawn 93 = .ok (.iinc 3 1, 3) := by decide +kernel
theorem dX7_drawn_96 : decode cX7_drawn 96 = .ok (.goto (-67), 3) := by decide +kernel
theorem dX7_drawn_99 : decode cX7_drawn 99 = .ok (.iload_n 2, 1) := by decide +kernel
theorem dX7_drawn_100 : decode cX7_drawn 100 = .ok (.ireturn, 1) := by decide +kernel
theorem dX7_keep_0 : decode cX7_keep 0 = .ok (.iload_n 1, 1) := by decide +kernel
theorem dX7_keep_1 : decode cX7_keep 1 = .ok (.invokestatic 247, 3) := by decide +kernel
theorem dX7_keep_4 : decode cX7_keep 4 = .ok (.ifCond .ne 5, 3) := by decide +kernel
theorem dX7_keep_7 : decode cX7_keep 7 = .ok (.iconst (-1), 1) := by decide +kernel
theorem dX7_keep_8 : decode cX7_keep 8 = .ok (.ireturn, 1) := by decide +kernel
theorem dX7_keep_9 : decode cX7_keep 9 = .ok (.aload_n 0, 1) := by decide +kernel
theorem dX7_keep_10 : decode cX7_keep 10 = .ok (.getfield 36, 3) := by decide +kernel
theorem dX7_keep_13 : decode cX7_keep 13 = .ok (.iload_n 1, 1) := by decide +kernel
theorem dX7_keep_14 : decode cX7_keep 14 = .ok (.aload_n 0, 1) := by decide +kernel
theorem dX7_keep_15 : decode cX7_keep 15 = .ok (.getfield 19, 3) := by decide +kernel
theorem dX7_keep_18 : decode cX7_keep 18 = .ok (.invokevirtual 250, 3) := by decide +kernel
theorem dX7_keep_21 : decode cX7_keep 21 = .ok (.aload_n 0, 1) := by decide +kernel
theorem dX7_keep_22 : decode cX7_keep 22 = .ok (.getfield 19, 3) := by decide +kernel
theorem dX7_keep_25 : decode cX7_keep 25 = .ok (.getfield 97, 3) := by decide +kernel
theorem dX7_keep_28 : decode cX7_keep 28 = .ok (.ireturn, 1) := by decide +kernel
theorem dX7_again_0 : decode cX7_again 0 = .ok (.iload_n 1, 1) := by decide +kernel
theorem dX7_again_1 : decode cX7_again 1 = .ok (.invokestatic 247, 3) := by decide +kernel
theorem dX7_again_4 : decode cX7_again 4 = .ok (.ifCond .ne 5, 3) := by decide +kernel
theorem dX7_again_7 : decode cX7_again 7 = .ok (.iconst (-1), 1) := by decide +kernel
theorem dX7_again_8 : decode cX7_again 8 = .ok (.ireturn, 1) := by decide +kernel
theorem dX7_again_9 : decode cX7_again 9 = .ok (.aload_n 0, 1) := by decide +kernel
theorem dX7_again_10 : decode cX7_again 10 = .ok (.getfield 36, 3) := by decide +kernel
theorem dX7_again_13 : decode cX7_again 13 = .ok (.iload_n 1, 1) := by decide +kernel
theorem dX7_again_14 : decode cX7_again 14 = .ok (.aload_n 0, 1) := by decide +kernel
theorem dX7_again_15 : decode cX7_again 15 = .ok (.getfield 19, 3) := by decide +kernel
theorem dX7_again_18 : decode cX7_again 18 = .ok (.invokevirtual 253, 3) := by decide +kernel
theorem dX7_again_21 : decode cX7_again 21 = .ok (.ifCond .ne 6, 3) := by decide +kernel
theorem dX7_again_24 : decode cX7_again 24 = .ok (.bipush (-3), 2) := by decide +kernel
theorem dX7_again_26 : decode cX7_again 26 = .ok (.ireturn, 1) := by decide +kernel
theorem dX7_again_27 : decode cX7_again 27 = .ok (.aload_n 0, 1) := by decide +kernel
theorem dX7_again_28 : decode cX7_again 28 = .ok (.getfield 29, 3) := by decide +kernel
theorem dX7_again_31 : decode cX7_again 31 = .ok (.invokevirtual 81, 3) := by decide +kernel
theorem dX7_again_34 : decode cX7_again 34 = .ok (.aload_n 0, 1) := by decide +kernel
theorem dX7_again_35 : decode cX7_again 35 = .ok (.getfield 19, 3) := by decide +kernel
theorem dX7_again_38 : decode cX7_again 38 = .ok (.getfield 97, 3) := by decide +kernel
theorem dX7_again_41 : decode cX7_again 41 = .ok (.ireturn, 1) := by decide +kernel
theorem dX7_isDot_0 : decode cX7_isDot 0 = .ok (.iload_n 0, 1) := by decide +kernel
theorem dX7_isDot_1 : decode cX7_isDot 1 = .ok (.ifCond .lt 21, 3) := by decide +kernel
theorem dX7_isDot_4 : decode cX7_isDot 4 = .ok (.iload_n 0, 1) := by decide +kernel
theorem dX7_isDot_5 : decode cX7_isDot 5 = .ok (.iconst 4, 1) := by decide +kernel
theorem dX7_isDot_6 : decode cX7_isDot 6 = .ok (.if_icmp .ge 16, 3) := by decide +kernel
theorem dX7_isDot_9 : decode cX7_isDot 9 = .ok (.iload_n 1, 1) := by decide +kernel
theorem dX7_isDot_10 : decode cX7_isDot 10 = .ok (.ifCond .lt 12, 3) := by decide +kernel
theorem dX7_isDot_13 : decode cX7_isDot 13 = .ok (.iload_n 1, 1) := by decide +kernel
theorem dX7_isDot_14 : decode cX7_isDot 14 = .ok (.iconst 4, 1) := by decide +kernel
theorem dX7_isDot_15 : decode cX7_isDot 15 = .ok (.if_icmp .ge 7, 3) := by decide +kernel
theorem dX7_isDot_18 : decode cX7_isDot 18 = .ok (.iconst 1, 1) := by decide +kernel
theorem dX7_isDot_19 : decode cX7_isDot 19 = .ok (.goto 4, 3) := by decide +kernel
theorem dX7_isDot_22 : decode cX7_isDot 22 = .ok (.iconst 0, 1) := by decide +kernel
theorem dX7_isDot_23 : decode cX7_isDot 23 = .ok (.ireturn, 1) := by decide +kernel
theorem dX7_isPack_0 : decode cX7_isPack 0 = .ok (.iload_n 0, 1) := by decide +kernel
theorem dX7_isPack_1 : decode cX7_isPack 1 = .ok (.ifCond .lt 12, 3) := by decide +kernel
theorem dX7_isPack_4 : decode cX7_isPack 4 = .ok (.iload_n 0, 1) := by decide +kernel
theorem dX7_isPack_5 : decode cX7_isPack 5 = .ok (.iconst 4, 1) := by decide +kernel
theorem dX7_isPack_6 : decode cX7_isPack 6 = .ok (.if_icmp .ge 7, 3) := by decide +kernel
theorem dX7_isPack_9 : decode cX7_isPack 9 = .ok (.iconst 1, 1) := by decide +kernel
theorem dX7_isPack_10 : decode cX7_isPack 10 = .ok (.goto 4, 3) := by decide +kernel
theorem dX7_isPack_13 : decode cX7_isPack 13 = .ok (.iconst 0, 1) := by decide +kernel
theorem dX7_isPack_14 : decode cX7_isPack 14 = .ok (.ireturn, 1) := by decide +kernel
theorem dX7_isShift_0 : decode cX7_isShift 0 = .ok (.iload_n 0, 1) := by decide +kernel
theorem dX7_isShift_1 : decode cX7_isShift 1 = .ok (.ifCond .lt 12, 3) := by decide +kernel
theorem dX7_isShift_4 : decode cX7_isShift 4 = .ok (.iload_n 0, 1) := by decide +kernel
theorem dX7_isShift_5 : decode cX7_isShift 5 = .ok (.iconst 4, 1) := by decide +kernel
theorem dX7_isShift_6 : decode cX7_isShift 6 = .ok (.if_icmp .ge 7, 3) := by decide +kernel
theorem dX7_isShift_9 : decode cX7_isShift 9 = .ok (.iconst 1, 1) := by decide +kernel
theorem dX7_isShift_10 : decode cX7_isShift 10 = .ok (.goto 4, 3) := by decide +kernel
theorem dX7_isShift_13 : decode cX7_isShift 13 = .ok (.iconst 0, 1) := by decide +kernel
theorem dX7_isShift_14 : decode cX7_isShift 14 = .ok (.ireturn, 1) := by decide +kernel
theorem dX7_isTenths_0 : decode cX7_isTenths 0 = .ok (.iload_n 0, 1) := by decide +kernel
theorem dX7_isTenths_1 : decode cX7_isTenths 1 = .ok (.ifCond .lt 13, 3) := by decide +kernel
theorem dX7_isTenths_4 : decode cX7_isTenths 4 = .ok (.iload_n 0, 1) := by decide +kernel
theorem dX7_isTenths_5 : decode cX7_isTenths 5 = .ok (.bipush 10, 2) := by decide +kernel
theorem dX7_isTenths_7 : decode cX7_isTenths 7 = .ok (.if_icmp .gt 7, 3) := by decide +kernel
theorem dX7_isTenths_10 : decode cX7_isTenths 10 = .ok (.iconst 1, 1) := by decide +kernel
theorem dX7_isTenths_11 : decode cX7_isTenths 11 = .ok (.goto 4, 3) := by decide +kernel
theorem dX7_isTenths_14 : decode cX7_isTenths 14 = .ok (.iconst 0, 1) := by decide +kernel
theorem dX7_isTenths_15 : decode cX7_isTenths 15 = .ok (.ireturn, 1) := by decide +kernel
theorem dX7_isSlot_0 : decode cX7_isSlot 0 = .ok (.iload_n 0, 1) := by decide +kernel
theorem dX7_isSlot_1 : decode cX7_isSlot 1 = .ok (.ifCond .lt 12, 3) := by decide +kernel
theorem dX7_isSlot_4 : decode cX7_isSlot 4 = .ok (.iload_n 0, 1) := by decide +kernel
theorem dX7_isSlot_5 : decode cX7_isSlot 5 = .ok (.iconst 2, 1) := by decide +kernel
theorem dX7_isSlot_6 : decode cX7_isSlot 6 = .ok (.if_icmp .ge 7, 3) := by decide +kernel
theorem dX7_isSlot_9 : decode cX7_isSlot 9 = .ok (.iconst 1, 1) := by decide +kernel
theorem dX7_isSlot_10 : decode cX7_isSlot 10 = .ok (.goto 4, 3) := by decide +kernel
theorem dX7_isSlot_13 : decode cX7_isSlot 13 = .ok (.iconst 0, 1) := by decide +kernel
theorem dX7_isSlot_14 : decode cX7_isSlot 14 = .ok (.ireturn, 1) := by decide +kernel
theorem dX7_blankNow_0 : decode cX7_blankNow 0 = .ok (.aload_n 0, 1) := by decide +kernel
theorem dX7_blankNow_1 : decode cX7_blankNow 1 = .ok (.getfield 57, 3) := by decide +kernel
theorem dX7_blankNow_4 : decode cX7_blankNow 4 = .ok (.aload_n 0, 1) := by decide +kernel
theorem dX7_blankNow_5 : decode cX7_blankNow 5 = .ok (.getfield 19, 3) := by decide +kernel
theorem dX7_blankNow_8 : decode cX7_blankNow 8 = .ok (.aload_n 0, 1) := by decide +kernel
theorem dX7_blankNow_9 : decode cX7_blankNow 9 = .ok (.getfield 19, 3) := by decide +kernel
theorem dX7_blankNow_12 : decode cX7_blankNow 12 = .ok (.getfield 94, 3) := by decide +kernel
theorem dX7_blankNow_15 : decode cX7_blankNow 15 = .ok (.aload_n 0, 1) := by decide +kernel
theorem dX7_blankNow_16 : decode cX7_blankNow 16 = .ok (.getfield 19, 3) := by decide +kernel
theorem dX7_blankNow_19 : decode cX7_blankNow 19 = .ok (.getfield 97, 3) := by decide +kernel
theorem dX7_blankNow_22 : decode cX7_blankNow 22 = .ok (.invokevirtual 160, 3) := by decide +kernel
theorem dX7_blankNow_25 : decode cX7_blankNow 25 = .ok (.aload_n 0, 1) := by decide +kernel
theorem dX7_blankNow_26 : decode cX7_blankNow 26 = .ok (.getfield 57, 3) := by decide +kernel
theorem dX7_blankNow_29 : decode cX7_blankNow 29 = .ok (.getfield 257, 3) := by decide +kernel
theorem dX7_blankNow_32 : decode cX7_blankNow 32 = .ok (.ireturn, 1) := by decide +kernel
theorem dX7_sideOf_0 : decode cX7_sideOf 0 = .ok (.aload_n 0, 1) := by decide +kernel
theorem dX7_sideOf_1 : decode cX7_sideOf 1 = .ok (.getfield 50, 3) := by decide +kernel
theorem dX7_sideOf_4 : decode cX7_sideOf 4 = .ok (.aload_n 0, 1) := by decide +kernel
theorem dX7_sideOf_5 : decode cX7_sideOf 5 = .ok (.getfield 19, 3) := by decide +kernel
theorem dX7_sideOf_8 : decode cX7_sideOf 8 = .ok (.invokevirtual 148, 3) := by decide +kernel
theorem dX7_sideOf_11 : decode cX7_sideOf 11 = .ok (.aload_n 0, 1) := by decide +kernel
theorem dX7_sideOf_12 : decode cX7_sideOf 12 = .ok (.getfield 50, 3) := by decide +kernel
theorem dX7_sideOf_15 : decode cX7_sideOf 15 = .ok (.iload_n 1, 1) := by decide +kernel
theorem dX7_sideOf_16 : decode cX7_sideOf 16 = .ok (.invokevirtual 260, 3) := by decide +kernel
theorem dX7_sideOf_19 : decode cX7_sideOf 19 = .ok (.ireturn, 1) := by decide +kernel
theorem dX7_bothSides_0 : decode cX7_bothSides 0 = .ok (.aload_n 0, 1) := by decide +kernel
theorem dX7_bothSides_1 : decode cX7_bothSides 1 = .ok (.getfield 50, 3) := by decide +kernel
theorem dX7_bothSides_4 : decode cX7_bothSides 4 = .ok (.aload_n 1, 1) := by decide +kernel
theorem dX7_bothSides_5 : decode cX7_bothSides 5 = .ok (.invokevirtual 148, 3) := by decide +kernel
theorem dX7_bothSides_8 : decode cX7_bothSides 8 = .ok (.aload_n 0, 1) := by decide +kernel
theorem dX7_bothSides_9 : decode cX7_bothSides 9 = .ok (.getfield 50, 3) := by decide +kernel
theorem dX7_bothSides_12 : decode cX7_bothSides 12 = .ok (.iconst 0, 1) := by decide +kernel
theorem dX7_bothSides_13 : decode cX7_bothSides 13 = .ok (.invokevirtual 260, 3) := by decide +kernel
theorem dX7_bothSides_16 : decode cX7_bothSides 16 = .ok (.aload_n 0, 1) := by decide +kernel
theorem dX7_bothSides_17 : decode cX7_bothSides 17 = .ok (.getfield 50, 3) := by decide +kernel
theorem dX7_bothSides_20 : decode cX7_bothSides 20 = .ok (.iconst 1, 1) := by decide +kernel
theorem dX7_bothSides_21 : decode cX7_bothSides 21 = .ok (.invokevirtual 260, 3) := by decide +kernel
theorem dX7_bothSides_24 : decode cX7_bothSides 24 = .ok (.iadd, 1) := by decide +kernel
theorem dX7_bothSides_25 : decode cX7_bothSides 25 = .ok (.ireturn, 1) := by decide +kernel
theorem dX7_bestChange_0 : decode cX7_bestChange 0 = .ok (.bipush (-9), 2) := by decide +kernel
theorem dX7_bestChange_2 : decode cX7_bestChange 2 = .ok (.istore_n 1, 1) := by decide +kernel
theorem dX7_bestChange_3 : decode cX7_bestChange 3 = .ok (.aload_n 0, 1) := by decide +kernel
theorem dX7_bestChange_4 : decode cX7_bestChange 4 = .ok (.aload_n 0, 1) := by decide +kernel
theorem dX7_bestChange_5 : decode cX7_bestChange 5 = .ok (.getfield 19, 3) := by decide +kernel
theorem dX7_bestChange_8 : decode cX7_bestChange 8 = .ok (.invokevirtual 172, 3) := by decide +kernel
theorem dX7_bestChange_11 : decode cX7_bestChange 11 = .ok (.istore_n 2, 1) := by decide +kernel
theorem dX7_bestChange_12 : decode cX7_bestChange 12 = .ok (.aload_n 0, 1) := by decide +kernel
theorem dX7_bestChange_13 : decode cX7_bestChange 13 = .ok (.getfield 23, 3) := by decide +kernel
theorem dX7_bestChange_16 : decode cX7_bestChange 16 = .ok (.aload_n 0, 1) := by decide +kernel
theorem dX7_bestChange_17 : decode cX7_bestChange 17 = .ok (.getfield 19, 3) := by decide +kernel
theorem dX7_bestChange_20 : decode cX7_bestChange 20 = .ok (.invokevirtual 77, 3) := by decide +kernel
theorem dX7_bestChange_23 : decode cX7_bestChange 23 = .ok (.iconst 0, 1) := by decide +kernel
theorem dX7_bestChange_24 : decode cX7_bestChange 24 = .ok (.istore_n 3, 1) := by decide +kernel
theorem dX7_bestChange_25 : decode cX7_bestChange 25 = .ok (.iload_n 3, 1) := by decide +kernel
theorem dX7_bestChange_26 : decode cX7_bestChange 26 = .ok (.aload_n 0, 1) := by decide +kernel
theorem dX7_bestChange_27 : decode cX7_bestChange 27 = .ok (.getfield 23, 3) := by decide +kernel
theorem dX7_bestChange_30 : decode cX7_bestChange 30 = .ok (.getfield 85, 3) := by decide +kernel
theorem dX7_bestChange_33 : decode cX7_bestChange 33 = .ok (.if_icmp .ge 79, 3) := by decide +kernel
theorem dX7_bestChange_36 : decode cX7_bestChange 36 = .ok (.iload_n 3, 1) := by decide +kernel
theorem dX7_bestChange_37 : decode cX7_bestChange 37 = .ok (.iconst 1, 1) := by decide +kernel
theorem dX7_bestChange_38 : decode cX7_bestChange 38 = .ok (.iadd, 1) := by decide +kernel
theorem dX7_bestChange_39 : decode cX7_bestChange 39 = .ok (.istore 4, 2) := by decide +kernel
theorem dX7_bestChange_41 : decode cX7_bestChange 41 = .ok (.iload 4, 2) := by decide +kernel
theorem dX7_bestChange_43 : decode cX7_bestChange 43 = .ok (.aload_n 0, 1) := by decide +kernel
theorem dX7_bestChange_44 : decode cX7_bestChange 44 = .ok (.getfield 23, 3) := by decide +kernel
theorem dX7_bestChange_47 : decode cX7_bestChange 47 = .ok (.getfield 85, 3) := by decide +kernel
theorem dX7_bestChange_50 : decode cX7_bestChange 50 = .ok (.if_icmp .ge 56, 3) := by decide +kernel
theorem dX7_bestChange_53 : decode cX7_bestChange 53 = .ok (.aload_n 0, 1) := by decide +kernel
theorem dX7_bestChange_54 : decode cX7_bestChange 54 = .ok (.getfield 23, 3) := by decide +kernel
theorem dX7_bestChange_57 : decode cX7_bestChange 57 = .ok (.iload_n 3, 1) := by decide +kernel
theorem dX7_bestChange_58 : decode cX7_bestChange 58 = .ok (.iload 4, 2) := by decide +kernel
theorem dX7_bestChange_60 : decode cX7_bestChange 60 = .ok (.invokevirtual 168, 3) := by decide +kernel
theorem dX7_bestChange_63 : decode cX7_bestChange 63 = .ok (.aload_n 0, 1) := by decide +kernel
theorem dX7_bestChange_64 : decode cX7_bestChange 64 = .ok (.aload_n 0, 1) := by decide +kernel
theorem dX7_bestChange_65 : decode cX7_bestChange 65 = .ok (.getfield 23, 3) := by decide +kernel
theorem dX7_bestChange_68 : decode cX7_bestChange 68 = .ok (.invokevirtual 172, 3) := by decide +kernel
theorem dX7_bestChange_71 : decode cX7_bestChange 71 = .ok (.istore 5, 2) := by decide +kernel
theorem dX7_bestChange_73 : decode cX7_bestChange 73 = .ok (.aload_n 0, 1) := by decide +kernel
theorem dX7_bestChange_74 : decode cX7_bestChange 74 = .ok (.getfield 23, 3) := by decide +kernel
theorem dX7_bestChange_77 : decode cX7_bestChange 77 = .ok (.iload_n 3, 1) := by decide +kernel
theorem dX7_bestChange_78 : decode cX7_bestChange 78 = .ok (.iload 4, 2) := by decide +kernel
theorem dX7_bestChange_80 : decode cX7_bestChange 80 = .ok (.invokevirtual 168, 3) := by decide +kernel
theorem dX7_bestChange_83 : decode cX7_bestChange 83 = .ok (.iload 5, 2) := by decide +kernel
theorem dX7_bestChange_85 : decode cX7_bestChange 85 = .ok (.iload_n 2, 1) := by decide +kernel
theorem dX7_bestChange_86 : decode cX7_bestChange 86 = .ok (.if_icmp .ge 14, 3) := by decide +kernel
theorem dX7_bestChange_89 : decode cX7_bestChange 89 = .ok (.iload 5, 2) := by decide +kernel
theorem dX7_bestChange_91 : decode cX7_bestChange 91 = .ok (.istore_n 2, 1) := by decide +kernel
theorem dX7_bestChange_92 : decode cX7_bestChange 92 = .ok (.bipush 100, 2) := by decide +kernel
theorem dX7_bestChange_94 : decode cX7_bestChange 94 = .ok (.iload_n 3, 1) := by decide +kernel
theorem dX7_bestChange_95 : decode cX7_bestChange 95 = .ok (.imul, 1) := by decide +kernel
theorem dX7_bestChange_96 : decode cX7_bestChange 96 = .ok (.iload 4, 2) := by decide +kernel
theorem dX7_bestChange_98 : decode cX7_bestChange 98 = .ok (.iadd, 1) := by decide +kernel
theorem dX7_bestChange_99 : decode cX7_bestChange 99 = .ok (.istore_n 1, 1) := by decide +kernel
theorem dX7_bestChange_100 : decode cX7_bestChange 100 = .ok (.iinc 4 1, 3) := by decide +kernel
theorem dX7_bestChange_103 : decode cX7_bestChange 103 = .ok (.goto (-62), 3) := by decide +kernel
theorem dX7_bestChange_106 : decode cX7_bestChange 106 = .ok (.iinc 3 1, 3) := by decide +kernel
theorem dX7_bestChange_109 : decode cX7_bestChange 109 = .ok (.goto (-84), 3) := by decide +kernel
theorem dX7_bestChange_112 : decode cX7_bestChange 112 = .ok (.iload_n 1, 1) := by decide +kernel
theorem dX7_bestChange_113 : decode cX7_bestChange 113 = .ok (.ireturn, 1) := by decide +kernel
theorem dX7_bestShift_0 : decode cX7_bestShift 0 = .ok (.iconst 0, 1) := by decide +kernel
theorem dX7_bestShift_1 : decode cX7_bestShift 1 = .ok (.istore_n 1, 1) := by decide +kernel
theorem dX7_bestShift_2 : decode cX7_bestShift 2 = .ok (.aload_n 0, 1) := by decide +kernel
theorem dX7_bestShift_3 : decode cX7_bestShift 3 = .ok (.iconst 0, 1) := by decide +kernel
theorem dX7_bestShift_4 : decode cX7_bestShift 4 = .ok (.invokevirtual 263, 3) := by decide +kernel
theorem dX7_bestShift_7 : decode cX7_bestShift 7 = .ok (.istore_n 2, 1) := by decide +kernel
theorem dX7_bestShift_8 : decode cX7_bestShift 8 = .ok (.iconst 1, 1) := by decide +kernel
theorem dX7_bestShift_9 : decode cX7_bestShift 9 = .ok (.istore_n 3, 1) := by decide +kernel
theorem dX7_bestShift_10 : decode cX7_bestShift 10 = .ok (.iload_n 3, 1) := by decide +kernel
theorem dX7_bestShift_11 : decode cX7_bestShift 11 = .ok (.iconst 4, 1) := by decide +kernel
theorem dX7_bestShift_12 : decode cX7_bestShift 12 = .ok (.if_icmp .ge 27, 3) := by decide +kernel
theorem dX7_bestShift_15 : decode cX7_bestShift 15 = .ok (.aload_n 0, 1) := by decide +kernel
theorem dX7_bestShift_16 : decode cX7_bestShift 16 = .ok (.iload_n 3, 1) := by decide +kernel
theorem dX7_bestShift_17 : decode cX7_bestShift 17 = .ok (.invokevirtual 263, 3) := by decide +kernel
theorem dX7_bestShift_20 : decode cX7_bestShift 20 = .ok (.istore 4, 2) := by decide +kernel
theorem dX7_bestShift_22 : decode cX7_bestShift 22 = .ok (.iload 4, 2) := by decide +kernel
theorem dX7_bestShift_24 : decode cX7_bestShift 24 = .ok (.iload_n 2, 1) := by decide +kernel
theorem dX7_bestShift_25 : decode cX7_bestShift 25 = .ok (.if_icmp .ge 8, 3) := by decide +kernel
theorem dX7_bestShift_28 : decode cX7_bestShift 28 = .ok (.iload 4, 2) := by decide +kernel
theorem dX7_bestShift_30 : decode cX7_bestShift 30 = .ok (.istore_n 2, 1) := by decide +kernel
theorem dX7_bestShift_31 : decode cX7_bestShift 31 = .ok (.iload_n 3, 1) := by decide +kernel
theorem dX7_bestShift_32 : decode cX7_bestShift 32 = .ok (.istore_n 1, 1) := by decide +kernel
theorem dX7_bestShift_33 : decode cX7_bestShift 33 = .ok (.iinc 3 1, 3) := by decide +kernel
theorem dX7_bestShift_36 : decode cX7_bestShift 36 = .ok (.goto (-26), 3) := by decide +kernel
theorem dX7_bestShift_39 : decode cX7_bestShift 39 = .ok (.iload_n 1, 1) := by decide +kernel
theorem dX7_bestShift_40 : decode cX7_bestShift 40 = .ok (.ireturn, 1) := by decide +kernel
theorem dX7_greatestMiss_0 : decode cX7_greatestMiss 0 = .ok (.iconst 0, 1) := by decide +kernel
theorem dX7_greatestMiss_1 : decode cX7_greatestMiss 1 = .ok (.istore_n 2, 1) := by decide +kernel
theorem dX7_greatestMiss_2 : decode cX7_greatestMiss 2 = .ok (.iconst 0, 1) := by decide +kernel
theorem dX7_greatestMiss_3 : decode cX7_greatestMiss 3 = .ok (.istore_n 3, 1) := by decide +kernel
theorem dX7_greatestMiss_4 : decode cX7_greatestMiss 4 = .ok (.iload_n 3, 1) := by decide +kernel
theorem dX7_greatestMiss_5 : decode cX7_greatestMiss 5 = .ok (.iconst 4, 1) := by decide +kernel
theorem dX7_greatestMiss_6 : decode cX7_greatestMiss 6 = .ok (.if_icmp .ge 29, 3) := by decide +kernel
theorem dX7_greatestMiss_9 : decode cX7_greatestMiss 9 = .ok (.iload_n 2, 1) := by decide +kernel
theorem dX7_greatestMiss_10 : decode cX7_greatestMiss 10 = .ok (.aload_n 0, 1) := by decide +kernel
theorem dX7_greatestMiss_11 : decode cX7_greatestMiss 11 = .ok (.getfield 57, 3) := by decide +kernel
theorem dX7_greatestMiss_14 : decode cX7_greatestMiss 14 = .ok (.aload_n 0, 1) := by decide +kernel
theorem dX7_greatestMiss_15 : decode cX7_greatestMiss 15 = .ok (.getfield 19, 3) := by decide +kernel
theorem dX7_greatestMiss_18 : decode cX7_greatestMiss 18 = .ok (.iload_n 1, 1) := by decide +kernel
theorem dX7_greatestMiss_19 : decode cX7_greatestMiss 19 = .ok (.iconst 1, 1) := by decide +kernel
theorem dX7_greatestMiss_20 : decode cX7_greatestMiss 20 = .ok (.iload_n 3, 1) := by decide +kernel
theorem dX7_greatestMiss_21 : decode cX7_greatestMiss 21 = .ok (.ishl, 1) := by decide +kernel
theorem dX7_greatestMiss_22 : decode cX7_greatestMiss 22 = .ok (.invokevirtual 104, 3) := by decide +kernel
theorem dX7_greatestMiss_25 : decode cX7_greatestMiss 25 = .ok (.invokestatic 266, 3) := by decide +kernel
theorem dX7_greatestMiss_28 : decode cX7_greatestMiss 28 = .ok (.istore_n 2, 1) := by decide +kernel
theorem dX7_greatestMiss_29 : decode cX7_greatestMiss 29 = .ok (.iinc 3 1, 3) := by decide +kernel
theorem dX7_greatestMiss_32 : decode cX7_greatestMiss 32 = .ok (.goto (-28), 3) := by decide +kernel
theorem dX7_greatestMiss_35 : decode cX7_greatestMiss 35 = .ok (.iload_n 2, 1) := by decide +kernel
theorem dX7_greatestMiss_36 : decode cX7_greatestMiss 36 = .ok (.ireturn, 1) := by decide +kernel
theorem dX7_band_0 : decode cX7_band 0 = .ok (.iconst 0, 1) := by decide +kernel
theorem dX7_band_1 : decode cX7_band 1 = .ok (.istore_n 1, 1) := by decide +kernel
theorem dX7_band_2 : decode cX7_band 2 = .ok (.iload_n 1, 1) := by decide +kernel
theorem dX7_band_3 : decode cX7_band 3 = .ok (.bipush 6, 2) := by decide +kernel
theorem dX7_band_5 : decode cX7_band 5 = .ok (.if_icmp .ge 29, 3) := by decide +kernel
theorem dX7_band_8 : decode cX7_band 8 = .ok (.aload_n 0, 1) := by decide +kernel
theorem dX7_band_9 : decode cX7_band 9 = .ok (.getfield 19, 3) := by decide +kernel
theorem dX7_band_12 : decode cX7_band 12 = .ok (.iload_n 1, 1) := by decide +kernel
theorem dX7_band_13 : decode cX7_band 13 = .ok (.invokevirtual 179, 3) := by decide +kernel
theorem dX7_band_16 : decode cX7_band 16 = .ok (.aload_n 0, 1) := by decide +kernel
theorem dX7_band_17 : decode cX7_band 17 = .ok (.getfield 19, 3) := by decide +kernel
theorem dX7_band_20 : decode cX7_band 20 = .ok (.getfield 85, 3) := by decide +kernel
theorem dX7_band_23 : decode cX7_band 23 = .ok (.if_icmp .lt 5, 3) := by decide +kernel
theorem dX7_band_26 : decode cX7_band 26 = .ok (.iload_n 1, 1) := by decide +kernel
theorem dX7_band_27 : decode cX7_band 27 = .ok (.ireturn, 1) := by decide +kernel
theorem dX7_band_28 : decode cX7_band 28 = .ok (.iinc 1 1, 3) := by decide +kernel
theorem dX7_band_31 : decode cX7_band 31 = .ok (.goto (-29), 3) := by decide +kernel
theorem dX7_band_34 : decode cX7_band 34 = .ok (.bipush (-9), 2) := by decide +kernel
theorem dX7_band_36 : decode cX7_band 36 = .ok (.ireturn, 1) := by decide +kernel
theorem dX7_goesWell_0 : decode cX7_goesWell 0 = .ok (.iload_n 1, 1) := by decide +kernel
theorem dX7_goesWell_1 : decode cX7_goesWell 1 = .ok (.tableswitch 166 1 6 #[39, 57, 75, 101, 119, 126], 39) := by decide +kernel
theorem dX7_goesWell_40 : decode cX7_goesWell 40 = .ok (.iload_n 2, 1) := by decide +kernel
theorem dX7_goesWell_41 : decode cX7_goesWell 41 = .ok (.ifCond .ne 15, 3) := by decide +kernel
theorem dX7_goesWell_44 : decode cX7_goesWell 44 = .ok (.aload_n 0, 1) := by decide +kernel
theorem dX7_goesWell_45 : decode cX7_goesWell 45 = .ok (.iload_n 3, 1) := by decide +kernel
theorem dX7_goesWell_46 : decode cX7_goesWell 46 = .ok (.invokevirtual 271, 3) := by decide +kernel
theorem dX7_goesWell_49 : decode cX7_goesWell 49 = .ok (.ifCond .eq 7, 3) := by decide +kernel
theorem dX7_goesWell_52 : decode cX7_goesWell 52 = .ok (.iconst 1, 1) := by decide +kernel
theorem dX7_goesWell_53 : decode cX7_goesWell 53 = .ok (.goto 4, 3) := by decide +kernel
theorem dX7_goesWell_56 : decode cX7_goesWell 56 = .ok (.iconst 0, 1) := by decide +kernel
theorem dX7_goesWell_57 : decode cX7_goesWell 57 = .ok (.ireturn, 1) := by decide +kernel
theorem dX7_goesWell_58 : decode cX7_goesWell 58 = .ok (.iload_n 2, 1) := by decide +kernel
theorem dX7_goesWell_59 : decode cX7_goesWell 59 = .ok (.ifCond .ne 15, 3) := by decide +kernel
theorem dX7_goesWell_62 : decode cX7_goesWell 62 = .ok (.aload_n 0, 1) := by decide +kernel
theorem dX7_goesWell_63 : decode cX7_goesWell 63 = .ok (.iload_n 3, 1) := by decide +kernel
theorem dX7_goesWell_64 : decode cX7_goesWell 64 = .ok (.invokevirtual 274, 3) := by decide +kernel
theorem dX7_goesWell_67 : decode cX7_goesWell 67 = .ok (.ifCond .eq 7, 3) := by decide +kernel
theorem dX7_goesWell_70 : decode cX7_goesWell 70 = .ok (.iconst 1, 1) := by decide +kernel
theorem dX7_goesWell_71 : decode cX7_goesWell 71 = .ok (.goto 4, 3) := by decide +kernel
theorem dX7_goesWell_74 : decode cX7_goesWell 74 = .ok (.iconst 0, 1) := by decide +kernel
theorem dX7_goesWell_75 : decode cX7_goesWell 75 = .ok (.ireturn, 1) := by decide +kernel
theorem dX7_goesWell_76 : decode cX7_goesWell 76 = .ok (.iload_n 2, 1) := by decide +kernel
theorem dX7_goesWell_77 : decode cX7_goesWell 77 = .ok (.iload_n 3, 1) := by decide +kernel
theorem dX7_goesWell_78 : decode cX7_goesWell 78 = .ok (.invokestatic 154, 3) := by decide +kernel
theorem dX7_goesWell_81 : decode cX7_goesWell 81 = .ok (.ifCond .eq 19, 3) := by decide +kernel
theorem dX7_goesWell_84 : decode cX7_goesWell 84 = .ok (.aload_n 0, 1) := by decide +kernel
theorem dX7_goesWell_85 : decode cX7_goesWell 85 = .ok (.iload_n 2, 1) := by decide +kernel
theorem dX7_goesWell_86 : decode cX7_goesWell 86 = .ok (.iconst 4, 1) := by decide +kernel
theorem dX7_goesWell_87 : decode cX7_goesWell 87 = .ok (.imul, 1) := by decide +kernel
theorem dX7_goesWell_88 : decode cX7_goesWell 88 = .ok (.iload_n 3, 1) := by decide +kernel
theorem dX7_goesWell_89 : decode cX7_goesWell 89 = .ok (.iadd, 1) := by decide +kernel
theorem dX7_goesWell_90 : decode cX7_goesWell 90 = .ok (.invokevirtual 277, 3) := by decide +kernel
theorem dX7_goesWell_93 : decode cX7_goesWell 93 = .ok (.ifCond .eq 7, 3) := by decide +kernel
theorem dX7_goesWell_96 : decode cX7_goesWell 96 = .ok (.iconst 1, 1) := by decide +kernel
theorem dX7_goesWell_97 : decode cX7_goesWell 97 = .ok (.goto 4, 3) := by decide +kernel
theorem dX7_goesWell_100 : decode cX7_goesWell 100 = .ok (.iconst 0, 1) := by decide +kernel
theorem dX7_goesWell_101 : decode cX7_goesWell 101 = .ok (.ireturn, 1) := by decide +kernel
theorem dX7_goesWell_102 : decode cX7_goesWell 102 = .ok (.iload_n 2, 1) := by decide +kernel
theorem dX7_goesWell_103 : decode cX7_goesWell 103 = .ok (.ifCond .ne 15, 3) := by decide +kernel
theorem dX7_goesWell_106 : decode cX7_goesWell 106 = .ok (.aload_n 0, 1) := by decide +kernel
theorem dX7_goesWell_107 : decode cX7_goesWell 107 = .ok (.iload_n 3, 1) := by decide +kernel
theorem dX7_goesWell_108 : decode cX7_goesWell 108 = .ok (.invokevirtual 280, 3) := by decide +kernel
theorem dX7_goesWell_111 : decode cX7_goesWell 111 = .ok (.ifCond .eq 7, 3) := by decide +kernel
theorem dX7_goesWell_114 : decode cX7_goesWell 114 = .ok (.iconst 1, 1) := by decide +kernel
theorem dX7_goesWell_115 : decode cX7_goesWell 115 = .ok (.goto 4, 3) := by decide +kernel
theorem dX7_goesWell_118 : decode cX7_goesWell 118 = .ok (.iconst 0, 1) := by decide +kernel
theorem dX7_goesWell_119 : decode cX7_goesWell 119 = .ok (.ireturn, 1) := by decide +kernel
theorem dX7_goesWell_120 : decode cX7_goesWell 120 = .ok (.aload_n 0, 1) := by decide +kernel
theorem dX7_goesWell_121 : decode cX7_goesWell 121 = .ok (.iload_n 2, 1) := by decide +kernel
theorem dX7_goesWell_122 : decode cX7_goesWell 122 = .ok (.iload_n 3, 1) := by decide +kernel
theorem dX7_goesWell_123 : decode cX7_goesWell 123 = .ok (.invokevirtual 283, 3) := by decide +kernel
theorem dX7_goesWell_126 : decode cX7_goesWell 126 = .ok (.ireturn, 1) := by decide +kernel
theorem dX7_goesWell_127 : decode cX7_goesWell 127 = .ok (.aload_n 0, 1) := by decide +kernel
theorem dX7_goesWell_128 : decode cX7_goesWell 128 = .ok (.getfield 57, 3) := by decide +kernel
theorem dX7_goesWell_131 : decode cX7_goesWell 131 = .ok (.aload_n 0, 1) := by decide +kernel
theorem dX7_goesWell_132 : decode cX7_goesWell 132 = .ok (.getfield 23, 3) := by decide +kernel
theorem dX7_goesWell_135 : decode cX7_goesWell 135 = .ok (.aload_n 0, 1) := by decide +kernel
theorem dX7_goesWell_136 : decode cX7_goesWell 136 = .ok (.getfield 23, 3) := by decide +kernel
theorem dX7_goesWell_139 : decode cX7_goesWell 139 = .ok (.getfield 94, 3) := by decide +kernel
theorem dX7_goesWell_142 : decode cX7_goesWell 142 = .ok (.aload_n 0, 1) := by decide +kernel
theorem dX7_goesWell_143 : decode cX7_goesWell 143 = .ok (.getfield 23, 3) := by decide +kernel
theorem dX7_goesWell_146 : decode cX7_goesWell 146 = .ok (.getfield 97, 3) := by decide +kernel
theorem dX7_goesWell_149 : decode cX7_goesWell 149 = .ok (.invokevirtual 104, 3) := by decide +kernel
theorem dX7_goesWell_152 : decode cX7_goesWell 152 = .ok (.bipush 10, 2) := by decide +kernel
theorem dX7_goesWell_154 : decode cX7_goesWell 154 = .ok (.iload_n 2, 1) := by decide +kernel
theorem dX7_goesWell_155 : decode cX7_goesWell 155 = .ok (.imul, 1) := by decide +kernel
theorem dX7_goesWell_156 : decode cX7_goesWell 156 = .ok (.iload_n 3, 1) := by decide +kernel
theorem dX7_goesWell_157 : decode cX7_goesWell 157 = .ok (.iadd, 1) := by decide +kernel
theorem dX7_goesWell_158 : decode cX7_goesWell 158 = .ok (.if_icmp .gt 7, 3) := by decide +kernel
theorem dX7_goesWell_161 : decode cX7_goesWell 161 = .ok (.iconst 1, 1) := by decide +kernel
theorem dX7_goesWell_162 : decode cX7_goesWell 162 = .ok (.goto 4, 3) := by decide +kernel
theorem dX7_goesWell_165 : decode cX7_goesWell 165 = .ok (.iconst 0, 1) := by decide +kernel
theorem dX7_goesWell_166 : decode cX7_goesWell 166 = .ok (.ireturn, 1) := by decide +kernel
theorem dX7_goesWell_167 : decode cX7_goesWell 167 = .ok (.iconst 0, 1) := by decide +kernel
theorem dX7_goesWell_168 : decode cX7_goesWell 168 = .ok (.ireturn, 1) := by decide +kernel
theorem dX7_triedPack_0 : decode cX7_triedPack 0 = .ok (.iload_n 1, 1) := by decide +kernel
theorem dX7_triedPack_1 : decode cX7_triedPack 1 = .ok (.invokestatic 189, 3) := by decide +kernel
theorem dX7_triedPack_4 : decode cX7_triedPack 4 = .ok (.ifCond .ne 5, 3) := by decide +kernel
theorem dX7_triedPack_7 : decode cX7_triedPack 7 = .ok (.iconst 0, 1) := by decide +kernel
theorem dX7_triedPack_8 : decode cX7_triedPack 8 = .ok (.ireturn, 1) := by decide +kernel
theorem dX7_triedPack_9 : decode cX7_triedPack 9 = .ok (.aload_n 0, 1) := by decide +kernel
theorem dX7_triedPack_10 : decode cX7_triedPack 10 = .ok (.getfield 23, 3) := by decide +kernel
theorem dX7_triedPack_13 : decode cX7_triedPack 13 = .ok (.iload_n 1, 1) := by decide +kernel
theorem dX7_triedPack_14 : decode cX7_triedPack 14 = .ok (.invokevirtual 192, 3) := by decide +kernel
theorem dX7_triedPack_17 : decode cX7_triedPack 17 = .ok (.iconst 1, 1) := by decide +kernel
theorem dX7_triedPack_18 : decode cX7_triedPack 18 = .ok (.ireturn, 1) := by decide +kernel
theorem dX7_triedShift_0 : decode cX7_triedShift 0 = .ok (.iload_n 1, 1) := by decide +kernel
theorem dX7_triedShift_1 : decode cX7_triedShift 1 = .ok (.invokestatic 186, 3) := by decide +kernel
theorem dX7_triedShift_4 : decode cX7_triedShift 4 = .ok (.ifCond .ne 5, 3) := by decide +kernel
theorem dX7_triedShift_7 : decode cX7_triedShift 7 = .ok (.iconst 0, 1) := by decide +kernel
theorem dX7_triedShift_8 : decode cX7_triedShift 8 = .ok (.ireturn, 1) := by decide +kernel
theorem dX7_triedShift_9 : decode cX7_triedShift 9 = .ok (.aload_n 0, 1) := by decide +kernel
theorem dX7_triedShift_10 : decode cX7_triedShift 10 = .ok (.getfield 23, 3) := by decide +kernel
theorem dX7_triedShift_13 : decode cX7_triedShift 13 = .ok (.iload_n 1, 1) := by decide +kernel
theorem dX7_triedShift_14 : decode cX7_triedShift 14 = .ok (.putfield 94, 3) := by decide +kernel
theorem dX7_triedShift_17 : decode cX7_triedShift 17 = .ok (.iconst 1, 1) := by decide +kernel
theorem dX7_triedShift_18 : decode cX7_triedShift 18 = .ok (.ireturn, 1) := by decide +kernel
theorem dX7_comesOutRight_0 : decode cX7_comesOutRight 0 = .ok (.aload_n 0, 1) := by decide +kernel
theorem dX7_comesOutRight_1 : decode cX7_comesOutRight 1 = .ok (.getfield 57, 3) := by decide +kernel
theorem dX7_comesOutRight_4 : decode cX7_comesOutRight 4 = .ok (.aload_n 0, 1) := by decide +kernel
theorem dX7_comesOutRight_5 : decode cX7_comesOutRight 5 = .ok (.getfield 23, 3) := by decide +kernel
theorem dX7_comesOutRight_8 : decode cX7_comesOutRight 8 = .ok (.aload_n 0, 1) := by decide +kernel
theorem dX7_comesOutRight_9 : decode cX7_comesOutRight 9 = .ok (.getfield 23, 3) := by decide +kernel
theorem dX7_comesOutRight_12 : decode cX7_comesOutRight 12 = .ok (.getfield 94, 3) := by decide +kernel
theorem dX7_comesOutRight_15 : decode cX7_comesOutRight 15 = .ok (.aload_n 0, 1) := by decide +kernel
theorem dX7_comesOutRight_16 : decode cX7_comesOutRight 16 = .ok (.getfield 23, 3) := by decide +kernel
theorem dX7_comesOutRight_19 : decode cX7_comesOutRight 19 = .ok (.getfield 97, 3) := by decide +kernel
theorem dX7_comesOutRight_22 : decode cX7_comesOutRight 22 = .ok (.invokevirtual 160, 3) := by decide +kernel
theorem dX7_comesOutRight_25 : decode cX7_comesOutRight 25 = .ok (.aload_n 0, 1) := by decide +kernel
theorem dX7_comesOutRight_26 : decode cX7_comesOutRight 26 = .ok (.getfield 57, 3) := by decide +kernel
theorem dX7_comesOutRight_29 : decode cX7_comesOutRight 29 = .ok (.getfield 164, 3) := by decide +kernel
theorem dX7_comesOutRight_32 : decode cX7_comesOutRight 32 = .ok (.iload_n 1, 1) := by decide +kernel
theorem dX7_comesOutRight_33 : decode cX7_comesOutRight 33 = .ok (.iaload, 1) := by decide +kernel
theorem dX7_comesOutRight_34 : decode cX7_comesOutRight 34 = .ok (.aload_n 0, 1) := by decide +kernel
theorem dX7_comesOutRight_35 : decode cX7_comesOutRight 35 = .ok (.getfield 23, 3) := by decide +kernel
theorem dX7_comesOutRight_38 : decode cX7_comesOutRight 38 = .ok (.getfield 157, 3) := by decide +kernel
theorem dX7_comesOutRight_41 : decode cX7_comesOutRight 41 = .ok (.iload_n 1, 1) := by decide +kernel
theorem dX7_comesOutRight_42 : decode cX7_comesOutRight 42 = .ok (.iaload, 1) := by decide +kernel
theorem dX7_comesOutRight_43 : decode cX7_comesOutRight 43 = .ok (.if_icmp .ne 7, 3) := by decide +kernel
theorem dX7_comesOutRight_46 : decode cX7_comesOutRight 46 = .ok (.iconst 1, 1) := by decide +kernel
theorem dX7_comesOutRight_47 : decode cX7_comesOutRight 47 = .ok (.goto 4, 3) := by decide +kernel
theorem dX7_comesOutRight_50 : decode cX7_comesOutRight 50 = .ok (.iconst 0, 1) := by decide +kernel
theorem dX7_comesOutRight_51 : decode cX7_comesOutRight 51 = .ok (.ireturn, 1) := by decide +kernel
theorem dX7_comesOutBlank_0 : decode cX7_comesOutBlank 0 = .ok (.iload_n 1, 1) := by decide +kernel
theorem dX7_comesOutBlank_1 : decode cX7_comesOutBlank 1 = .ok (.ifCond .lt 8, 3) := by decide +kernel
theorem dX7_comesOutBlank_4 : decode cX7_comesOutBlank 4 = .ok (.iload_n 1, 1) := by decide +kernel
theorem dX7_comesOutBlank_5 : decode cX7_comesOutBlank 5 = .ok (.iconst 4, 1) := by decide +kernel
theorem dX7_comesOutBlank_6 : decode cX7_comesOutBlank 6 = .ok (.if_icmp .lt 5, 3) := by decide +kernel
theorem dX7_comesOutBlank_9 : decode cX7_comesOutBlank 9 = .ok (.iconst 0, 1) := by decide +kernel
theorem dX7_comesOutBlank_10 : decode cX7_comesOutBlank 10 = .ok (.ireturn, 1) := by decide +kernel
theorem dX7_comesOutBlank_11 : decode cX7_comesOutBlank 11 = .ok (.aload_n 0, 1) := by decide +kernel
theorem dX7_comesOutBlank_12 : decode cX7_comesOutBlank 12 = .ok (.getfield 57, 3) := by decide +kernel
theorem dX7_comesOutBlank_15 : decode cX7_comesOutBlank 15 = .ok (.aload_n 0, 1) := by decide +kernel
theorem dX7_comesOutBlank_16 : decode cX7_comesOutBlank 16 = .ok (.getfield 23, 3) := by decide +kernel
theorem dX7_comesOutBlank_19 : decode cX7_comesOutBlank 19 = .ok (.aload_n 0, 1) := by decide +kernel
theorem dX7_comesOutBlank_20 : decode cX7_comesOutBlank 20 = .ok (.getfield 23, 3) := by decide +kernel
theorem dX7_comesOutBlank_23 : decode cX7_comesOutBlank 23 = .ok (.getfield 94, 3) := by decide +kernel
theorem dX7_comesOutBlank_26 : decode cX7_comesOutBlank 26 = .ok (.aload_n 0, 1) := by decide +kernel
theorem dX7_comesOutBlank_27 : decode cX7_comesOutBlank 27 = .ok (.getfield 23, 3) := by decide +kernel
theorem dX7_comesOutBlank_30 : decode cX7_comesOutBlank 30 = .ok (.getfield 97, 3) := by decide +kernel
theorem dX7_comesOutBlank_33 : decode cX7_comesOutBlank 33 = .ok (.invokevirtual 160, 3) := by decide +kernel
theorem dX7_comesOutBlank_36 : decode cX7_comesOutBlank 36 = .ok (.aload_n 0, 1) := by decide +kernel
theorem dX7_comesOutBlank_37 : decode cX7_comesOutBlank 37 = .ok (.getfield 57, 3) := by decide +kernel
theorem dX7_comesOutBlank_40 : decode cX7_comesOutBlank 40 = .ok (.getfield 257, 3) := by decide +kernel
theorem dX7_comesOutBlank_43 : decode cX7_comesOutBlank 43 = .ok (.iload_n 1, 1) := by decide +kernel
theorem dX7_comesOutBlank_44 : decode cX7_comesOutBlank 44 = .ok (.ishr, 1) := by decide +kernel
theorem dX7_comesOutBlank_45 : decode cX7_comesOutBlank 45 = .ok (.iconst 1, 1) := by decide +kernel
theorem dX7_comesOutBlank_46 : decode cX7_comesOutBlank 46 = .ok (.iand, 1) := by decide +kernel
theorem dX7_comesOutBlank_47 : decode cX7_comesOutBlank 47 = .ok (.iconst 1, 1) := by decide +kernel
theorem dX7_comesOutBlank_48 : decode cX7_comesOutBlank 48 = .ok (.if_icmp .ne 7, 3) := by decide +kernel
theorem dX7_comesOutBlank_51 : decode cX7_comesOutBlank 51 = .ok (.iconst 1, 1) := by decide +kernel
theorem dX7_comesOutBlank_52 : decode cX7_comesOutBlank 52 = .ok (.goto 4, 3) := by decide +kernel
theorem dX7_comesOutBlank_55 : decode cX7_comesOutBlank 55 = .ok (.iconst 0, 1) := by decide +kernel
theorem dX7_comesOutBlank_56 : decode cX7_comesOutBlank 56 = .ok (.ireturn, 1) := by decide +kernel
theorem dX7_triedChange_0 : decode cX7_triedChange 0 = .ok (.aload_n 0, 1) := by decide +kernel
theorem dX7_triedChange_1 : decode cX7_triedChange 1 = .ok (.getfield 23, 3) := by decide +kernel
theorem dX7_triedChange_4 : decode cX7_triedChange 4 = .ok (.iload_n 1, 1) := by decide +kernel
theorem dX7_triedChange_5 : decode cX7_triedChange 5 = .ok (.invokevirtual 125, 3) := by decide +kernel
theorem dX7_triedChange_8 : decode cX7_triedChange 8 = .ok (.ifCond .eq 19, 3) := by decide +kernel
theorem dX7_triedChange_11 : decode cX7_triedChange 11 = .ok (.aload_n 0, 1) := by decide +kernel
theorem dX7_triedChange_12 : decode cX7_triedChange 12 = .ok (.getfield 23, 3) := by decide +kernel
theorem dX7_triedChange_15 : decode cX7_triedChange 15 = .ok (.iload_n 2, 1) := by decide +kernel
theorem dX7_triedChange_16 : decode cX7_triedChange 16 = .ok (.invokevirtual 125, 3) := by decide +kernel
theorem dX7_triedChange_19 : decode cX7_triedChange 19 = .ok (.ifCond .eq 8, 3) := by decide +kernel
theorem dX7_triedChange_22 : decode cX7_triedChange 22 = .ok (.iload_n 1, 1) := by decide +kernel
theorem dX7_triedChange_23 : decode cX7_triedChange 23 = .ok (.iload_n 2, 1) := by decide +kernel
theorem dX7_triedChange_24 : decode cX7_triedChange 24 = .ok (.if_icmp .ne 5, 3) := by decide +kernel
theorem dX7_triedChange_27 : decode cX7_triedChange 27 = .ok (.iconst 0, 1) := by decide +kernel
theorem dX7_triedChange_28 : decode cX7_triedChange 28 = .ok (.ireturn, 1) := by decide +kernel
theorem dX7_triedChange_29 : decode cX7_triedChange 29 = .ok (.aload_n 0, 1) := by decide +kernel
theorem dX7_triedChange_30 : decode cX7_triedChange 30 = .ok (.getfield 23, 3) := by decide +kernel
theorem dX7_triedChange_33 : decode cX7_triedChange 33 = .ok (.iload_n 1, 1) := by decide +kernel
theorem dX7_triedChange_34 : decode cX7_triedChange 34 = .ok (.iload_n 2, 1) := by decide +kernel
theorem dX7_triedChange_35 : decode cX7_triedChange 35 = .ok (.invokevirtual 168, 3) := by decide +kernel
theorem dX7_triedChange_38 : decode cX7_triedChange 38 = .ok (.iconst 1, 1) := by decide +kernel
theorem dX7_triedChange_39 : decode cX7_triedChange 39 = .ok (.ireturn, 1) := by decide +kernel
theorem dX7_tellMisses_0 : decode cX7_tellMisses 0 = .ok (.iconst 0, 1) := by decide +kernel
theorem dX7_tellMisses_1 : decode cX7_tellMisses 1 = .ok (.istore_n 1, 1) := by decide +kernel
theorem dX7_tellMisses_2 : decode cX7_tellMisses 2 = .ok (.iload_n 1, 1) := by decide +kernel
theorem dX7_tellMisses_3 : decode cX7_tellMisses 3 = .ok (.bipush 16, 2) := by decide +kernel
theorem dX7_tellMisses_5 : decode cX7_tellMisses 5 = .ok (.if_icmp .ge 34, 3) := by decide +kernel
theorem dX7_tellMisses_8 : decode cX7_tellMisses 8 = .ok (.aload_n 0, 1) := by decide +kernel
theorem dX7_tellMisses_9 : decode cX7_tellMisses 9 = .ok (.getfield 61, 3) := by decide +kernel
theorem dX7_tellMisses_12 : decode cX7_tellMisses 12 = .ok (.iload_n 1, 1) := by decide +kernel
theorem dX7_tellMisses_13 : decode cX7_tellMisses 13 = .ok (.aload_n 0, 1) := by decide +kernel
theorem dX7_tellMisses_14 : decode cX7_tellMisses 14 = .ok (.getfield 57, 3) := by decide +kernel
theorem dX7_tellMisses_17 : decode cX7_tellMisses 17 = .ok (.aload_n 0, 1) := by decide +kernel
theorem dX7_tellMisses_18 : decode cX7_tellMisses 18 = .ok (.getfield 19, 3) := by decide +kernel
theorem dX7_tellMisses_21 : decode cX7_tellMisses 21 = .ok (.aload_n 0, 1) := by decide +kernel
theorem dX7_tellMisses_22 : decode cX7_tellMisses 22 = .ok (.getfield 19, 3) := by decide +kernel
theorem dX7_tellMisses_25 : decode cX7_tellMisses 25 = .ok (.getfield 94, 3) := by decide +kernel
theorem dX7_tellMisses_28 : decode cX7_tellMisses 28 = .ok (.iload_n 1, 1) := by decide +kernel
theorem dX7_tellMisses_29 : decode cX7_tellMisses 29 = .ok (.invokevirtual 104, 3) := by decide +kernel
theorem dX7_tellMisses_32 : decode cX7_tellMisses 32 = .ok (.iastore, 1) := by decide +kernel
theorem dX7_tellMisses_33 : decode cX7_tellMisses 33 = .ok (.iinc 1 1, 3) := by decide +kernel
theorem dX7_tellMisses_36 : decode cX7_tellMisses 36 = .ok (.goto (-34), 3) := by decide +kernel
theorem dX7_tellMisses_39 : decode cX7_tellMisses 39 = .ok (.return_, 1) := by decide +kernel
theorem dX7_likelihood_0 : decode cX7_likelihood 0 = .ok (.iconst 1, 1) := by decide +kernel
theorem dX7_likelihood_1 : decode cX7_likelihood 1 = .ok (.istore_n 2, 1) := by decide +kernel
theorem dX7_likelihood_2 : decode cX7_likelihood 2 = .ok (.iconst 0, 1) := by decide +kernel
theorem dX7_likelihood_3 : decode cX7_likelihood 3 = .ok (.istore_n 3, 1) := by decide +kernel
theorem dX7_likelihood_4 : decode cX7_likelihood 4 = .ok (.iload_n 3, 1) := by decide +kernel
theorem dX7_likelihood_5 : decode cX7_likelihood 5 = .ok (.iconst 4, 1) := by decide +kernel
theorem dX7_likelihood_6 : decode cX7_likelihood 6 = .ok (.if_icmp .ge 29, 3) := by decide +kernel
theorem dX7_likelihood_9 : decode cX7_likelihood 9 = .ok (.iload_n 2, 1) := by decide +kernel
theorem dX7_likelihood_10 : decode cX7_likelihood 10 = .ok (.iload_n 0, 1) := by decide +kernel
theorem dX7_likelihood_11 : decode cX7_likelihood 11 = .ok (.iload_n 3, 1) := by decide +kernel
theorem dX7_likelihood_12 : decode cX7_likelihood 12 = .ok (.ishr, 1) := by decide +kernel
theorem dX7_likelihood_13 : decode cX7_likelihood 13 = .ok (.iconst 1, 1) := by decide +kernel
theorem dX7_likelihood_14 : decode cX7_likelihood 14 = .ok (.iand, 1) := by decide +kernel
theorem dX7_likelihood_15 : decode cX7_likelihood 15 = .ok (.iconst 1, 1) := by decide +kernel
theorem dX7_likelihood_16 : decode cX7_likelihood 16 = .ok (.if_icmp .ne 7, 3) := by decide +kernel
theorem dX7_likelihood_19 : decode cX7_likelihood 19 = .ok (.iload_n 1, 1) := by decide +kernel
theorem dX7_likelihood_20 : decode cX7_likelihood 20 = .ok (.goto 7, 3) := by decide +kernel
theorem dX7_likelihood_23 : decode cX7_likelihood 23 = .ok (.bipush 10, 2) := by decide +kernel
theorem dX7_likelihood_25 : decode cX7_likelihood 25 = .ok (.iload_n 1, 1) := by decide +kernel
theorem dX7_likelihood_26 : decode cX7_likelihood 26 = .ok (.isub, 1) := by decide +kernel
theorem dX7_likelihood_27 : decode cX7_likelihood 27 = .ok (.imul, 1) := by decide +kernel
theorem dX7_likelihood_28 : decode cX7_likelihood 28 = .ok (.istore_n 2, 1) := by decide +kernel
theorem dX7_likelihood_29 : decode cX7_likelihood 29 = .ok (.iinc 3 1, 3) := by decide +kernel
theorem dX7_likelihood_32 : decode cX7_likelihood 32 = .ok (.goto (-28), 3) := by decide +kernel
theorem dX7_likelihood_35 : decode cX7_likelihood 35 = .ok (.iload_n 2, 1) := by decide +kernel
theorem dX7_likelihood_36 : decode cX7_likelihood 36 = .ok (.ireturn, 1) := by decide +kernel
theorem dX7_fraction_0 : decode cX7_fraction 0 = .ok (.iconst 1, 1) := by decide +kernel
theorem dX7_fraction_1 : decode cX7_fraction 1 = .ok (.iload_n 0, 1) := by decide +kernel
theorem dX7_fraction_2 : decode cX7_fraction 2 = .ok (.invokestatic 286, 3) := by decide +kernel
theorem dX7_fraction_5 : decode cX7_fraction 5 = .ok (.iload_n 1, 1) := by decide +kernel
theorem dX7_fraction_6 : decode cX7_fraction 6 = .ok (.invokestatic 289, 3) := by decide +kernel
theorem dX7_fraction_9 : decode cX7_fraction 9 = .ok (.invokestatic 266, 3) := by decide +kernel
theorem dX7_fraction_12 : decode cX7_fraction 12 = .ok (.istore_n 3, 1) := by decide +kernel
theorem dX7_fraction_13 : decode cX7_fraction 13 = .ok (.iload_n 2, 1) := by decide +kernel
theorem dX7_fraction_14 : decode cX7_fraction 14 = .ok (.ifCond .eq 9, 3) := by decide +kernel
theorem dX7_fraction_17 : decode cX7_fraction 17 = .ok (.iload_n 0, 1) := by decide +kernel
theorem dX7_fraction_18 : decode cX7_fraction 18 = .ok (.iload_n 3, 1) := by decide +kernel
theorem dX7_fraction_19 : decode cX7_fraction 19 = .ok (.idiv, 1) := by decide +kernel
theorem dX7_fraction_20 : decode cX7_fraction 20 = .ok (.goto 6, 3) := by decide +kernel
theorem dX7_fraction_23 : decode cX7_fraction 23 = .ok (.iload_n 1, 1) := by decide +kernel
theorem dX7_fraction_24 : decode cX7_fraction 24 = .ok (.iload_n 3, 1) := by decide +kernel
theorem dX7_fraction_25 : decode cX7_fraction 25 = .ok (.idiv, 1) := by decide +kernel
theorem dX7_fraction_26 : decode cX7_fraction 26 = .ok (.ireturn, 1) := by decide +kernel
theorem dX7_commonDivisor_0 : decode cX7_commonDivisor 0 = .ok (.iload_n 0, 1) := by decide +kernel
theorem dX7_commonDivisor_1 : decode cX7_commonDivisor 1 = .ok (.istore_n 2, 1) := by decide +kernel
theorem dX7_commonDivisor_2 : decode cX7_commonDivisor 2 = .ok (.iload_n 1, 1) := by decide +kernel
theorem dX7_commonDivisor_3 : decode cX7_commonDivisor 3 = .ok (.istore_n 3, 1) := by decide +kernel
theorem dX7_commonDivisor_4 : decode cX7_commonDivisor 4 = .ok (.iconst 0, 1) := by decide +kernel
theorem dX7_commonDivisor_5 : decode cX7_commonDivisor 5 = .ok (.istore 4, 2) := by decide +kernel
theorem dX7_commonDivisor_7 : decode cX7_commonDivisor 7 = .ok (.iload 4, 2) := by decide +kernel
theorem dX7_commonDivisor_9 : decode cX7_commonDivisor 9 = .ok (.bipush 64, 2) := by decide +kernel
theorem dX7_commonDivisor_11 : decode cX7_commonDivisor 11 = .ok (.if_icmp .ge 23, 3) := by decide +kernel
theorem dX7_commonDivisor_14 : decode cX7_commonDivisor 14 = .ok (.iload_n 3, 1) := by decide +kernel
theorem dX7_commonDivisor_15 : decode cX7_commonDivisor 15 = .ok (.ifCond .eq 19, 3) := by decide +kernel
theorem dX7_commonDivisor_18 : decode cX7_commonDivisor 18 = .ok (.iload_n 2, 1) := by decide +kernel
theorem dX7_commonDivisor_19 : decode cX7_commonDivisor 19 = .ok (.iload_n 3, 1) := by decide +kernel
theorem dX7_commonDivisor_20 : decode cX7_commonDivisor 20 = .ok (.irem, 1) := by decide +kernel
theorem dX7_commonDivisor_21 : decode cX7_commonDivisor 21 = .ok (.istore 5, 2) := by decide +kernel
theorem dX7_commonDivisor_23 : decode cX7_commonDivisor 23 = .ok (.iload_n 3, 1) := by decide +kernel
theorem dX7_commonDivisor_24 : decode cX7_commonDivisor 24 = .ok (.istore_n 2, 1) := by decide +kernel
theorem dX7_commonDivisor_25 : decode cX7_commonDivisor 25 = .ok (.iload 5, 2) := by decide +kernel
theorem dX7_commonDivisor_27 : decode cX7_commonDivisor 27 = .ok (.istore_n 3, 1) := by decide +kernel
theorem dX7_commonDivisor_28 : decode cX7_commonDivisor 28 = .ok (.iinc 4 1, 3) := by decide +kernel
theorem dX7_commonDivisor_31 : decode cX7_commonDivisor 31 = .ok (.goto (-24), 3) := by decide +kernel
theorem dX7_commonDivisor_34 : decode cX7_commonDivisor 34 = .ok (.iload_n 2, 1) := by decide +kernel
theorem dX7_commonDivisor_35 : decode cX7_commonDivisor 35 = .ok (.ireturn, 1) := by decide +kernel
theorem dX7_square_0 : decode cX7_square 0 = .ok (.iload_n 0, 1) := by decide +kernel
theorem dX7_square_1 : decode cX7_square 1 = .ok (.iload_n 0, 1) := by decide +kernel
theorem dX7_square_2 : decode cX7_square 2 = .ok (.imul, 1) := by decide +kernel
theorem dX7_square_3 : decode cX7_square 3 = .ok (.ireturn, 1) := by decide +kernel
end
section
theorem dX8_init_0 : decode cX8_init 0 = .ok (.aload_n 0, 1) := by decide +kernel
theorem dX8_init_1 : decode cX8_init 1 = .ok (.invokespecial 1, 3) := by decide +kernel
theorem dX8_init_4 : decode cX8_init 4 = .ok (.aload_n 0, 1) := by decide +kernel
theorem dX8_init_5 : decode cX8_init 5 = .ok (.bipush 70, 2) := by decide +kernel
theorem dX8_init_7 : decode cX8_init 7 = .ok (.newarray .int, 2) := by decide +kernel
theorem dX8_init_9 : decode cX8_init 9 = .ok (.putfield 7, 3) := by decide +kernel
theorem dX8_init_12 : decode cX8_init 12 = .ok (.aload_n 0, 1) := by decide +kernel
theorem dX8_init_13 : decode cX8_init 13 = .ok (.bipush 38, 2) := by decide +kernel
theorem dX8_init_15 : decode cX8_init 15 = .ok (.newarray .int, 2) := by decide +kernel
theorem dX8_init_17 : decode cX8_init 17 = .ok (.putfield 13, 3) := by decide +kernel
theorem dX8_init_20 : decode cX8_init 20 = .ok (.aload_n 0, 1) := by decide +kernel
theorem dX8_init_21 : decode cX8_init 21 = .ok (.bipush 38, 2) := by decide +kernel
theorem dX8_init_23 : decode cX8_init 23 = .ok (.newarray .int, 2) := by decide +kernel
theorem dX8_init_25 : decode cX8_init 25 = .ok (.putfield 16, 3) := by decide +kernel
theorem dX8_init_28 : decode cX8_init 28 = .ok (.aload_n 0, 1) := by decide +kernel
theorem dX8_init_29 : decode cX8_init 29 = .ok (.sipush 532, 3) := by decide +kernel
theorem dX8_init_32 : decode cX8_init 32 = .ok (.newarray .int, 2) := by decide +kernel
theorem dX8_init_34 : decode cX8_init 34 = .ok (.putfield 19, 3) := by decide +kernel
theorem dX8_init_37 : decode cX8_init 37 = .ok (.aload_n 0, 1) := by decide +kernel
theorem dX8_init_38 : decode cX8_init 38 = .ok (.bipush 76, 2) := by decide +kernel
theorem dX8_init_40 : decode cX8_init 40 = .ok (.newarray .int, 2) := by decide +kernel
theorem dX8_init_42 : decode cX8_init 42 = .ok (.putfield 22, 3) := by decide +kernel
theorem dX8_init_45 : decode cX8_init 45 = .ok (.aload_n 0, 1) := by decide +kernel
theorem dX8_init_46 : decode cX8_init 46 = .ok (.iconst 2, 1) := by decide +kernel
theorem dX8_init_47 : decode cX8_init 47 = .ok (.newarray .boolean, 2) := by decide +kernel
theorem dX8_init_49 : decode cX8_init 49 = .ok (.putfield 25, 3) := by decide +kernel
theorem dX8_init_52 : decode cX8_init 52 = .ok (.aload_n 0, 1) := by decide +kernel
theorem dX8_init_53 : decode cX8_init 53 = .ok (.bipush 6, 2) := by decide +kernel
theorem dX8_init_55 : decode cX8_init 55 = .ok (.newarray .int, 2) := by decide +kernel
theorem dX8_init_57 : decode cX8_init 57 = .ok (.putfield 29, 3) := by decide +kernel
theorem dX8_init_60 : decode cX8_init 60 = .ok (.aload_n 0, 1) := by decide +kernel
theorem dX8_init_61 : decode cX8_init 61 = .ok (.bipush 6, 2) := by decide +kernel
theorem dX8_init_63 : decode cX8_init 63 = .ok (.newarray .int, 2) := by decide +kernel
theorem dX8_init_65 : decode cX8_init 65 = .ok (.putfield 32, 3) := by decide +kernel
theorem dX8_init_68 : decode cX8_init 68 = .ok (.aload_n 0, 1) := by decide +kernel
theorem dX8_init_69 : decode cX8_init 69 = .ok (.bipush 16, 2) := by decide +kernel
theorem dX8_init_71 : decode cX8_init 71 = .ok (.newarray .int, 2) := by decide +kernel
theorem dX8_init_73 : decode cX8_init 73 = .ok (.putfield 35, 3) := by decide +kernel
theorem dX8_init_76 : decode cX8_init 76 = .ok (.aload_n 0, 1) := by decide +kernel
theorem dX8_init_77 : decode cX8_init 77 = .ok (.iconst 4, 1) := by decide +kernel
theorem dX8_init_78 : decode cX8_init 78 = .ok (.newarray .boolean, 2) := by decide +kernel
theorem dX8_init_80 : decode cX8_init 80 = .ok (.putfield 38, 3) := by decide +kernel
theorem dX8_init_83 : decode cX8_init 83 = .ok (.aload_n 0, 1) := by decide +kernel
theorem dX8_init_84 : decode cX8_init 84 = .ok (.bipush 16, 2) := by decide +kernel
theorem dX8_init_86 : decode cX8_init 86 = .ok (.newarray .int, 2) := by decide +kernel
theorem dX8_init_88 : decode cX8_init 88 = .ok (.putfield 41, 3) := by decide +kernel
theorem dX8_init_91 : decode cX8_init 91 = .ok (.aload_n 0, 1) := by decide +kernel
theorem dX8_init_92 : decode cX8_init 92 = .ok (.bipush 20, 2) := by decide +kernel
theorem dX8_init_94 : decode cX8_init 94 = .ok (.newarray .int, 2) := by decide +kernel
theorem dX8_init_96 : decode cX8_init 96 = .ok (.putfield 44, 3) := by decide +kernel
theorem dX8_init_99 : decode cX8_init 99 = .ok (.aload_n 0, 1) := by decide +kernel
theorem dX8_init_100 : decode cX8_init 100 = .ok (.iconst 1, 1) := by decide +kernel
theorem dX8_init_101 : decode cX8_init 101 = .ok (.putfield 47, 3) := by decide +kernel
theorem dX8_init_104 : decode cX8_init 104 = .ok (.aload_n 0, 1) := by decide +kernel
theorem dX8_init_105 : decode cX8_init 105 = .ok (.iconst 1, 1) := by decide +kernel
theorem dX8_init_106 : decode cX8_init 106 = .ok (.putfield 51, 3) := by decide +kernel
theorem dX8_init_109 : decode cX8_init 109 = .ok (.aload_n 0, 1) := by decide +kernel
theorem dX8_init_110 : decode cX8_init 110 = .ok (.getfield 13, 3) := by decide +kernel
theorem dX8_init_113 : decode cX8_init 113 = .ok (.bipush 36, 2) := by decide +kernel
theorem dX8_init_115 : decode cX8_init 115 = .ok (.iconst 1, 1) := by decide +kernel
theorem dX8_init_116 : decode cX8_init 116 = .ok (.iastore, 1) := by decide +kernel
theorem dX8_init_117 : decode cX8_init 117 = .ok (.return_, 1) := by decide +kernel
theorem dX8_copy_0 : decode cX8_copy 0 = .ok (.iconst 0, 1) := by decide +kernel
theorem dX8_copy_1 : decode cX8_copy 1 = .ok (.istore_n 2, 1) := by decide +kernel
theorem dX8_copy_2 : decode cX8_copy 2 = .ok (.iload_n 2, 1) := by decide +kernel
theorem dX8_copy_3 : decode cX8_copy 3 = .ok (.bipush 38, 2) := by decide +kernel
theorem dX8_copy_5 : decode cX8_copy 5 = .ok (.if_icmp .ge 15, 3) := by decide +kernel
theorem dX8_copy_8 : decode cX8_copy 8 = .ok (.aload_n 1, 1) := by decide +kernel
theorem dX8_copy_9 : decode cX8_copy 9 = .ok (.iload_n 2, 1) := by decide +kernel
theorem dX8_copy_10 : decode cX8_copy 10 = .ok (.aload_n 0, 1) := by decide +kernel
theorem dX8_copy_11 : decode cX8_copy 11 = .ok (.iload_n 2, 1) := by decide +kernel
theorem dX8_copy_12 : decode cX8_copy 12 = .ok (.iaload, 1) := by decide +kernel
theorem dX8_copy_13 : decode cX8_copy 13 = .ok (.iastore, 1) := by decide +kernel
theorem dX8_copy_14 : decode cX8_copy 14 = .ok (.iinc 2 1, 3) := by decide +kernel
theorem dX8_copy_17 : decode cX8_copy 17 = .ok (.goto (-15), 3) := by decide +kernel
theorem dX8_copy_20 : decode cX8_copy 20 = .ok (.return_, 1) := by decide +kernel
theorem dX8_in_0 : decode cX8_in 0 = .ok (.lload_n 0, 1) := by decide +kernel
theorem dX8_in_1 : decode cX8_in 1 = .ok (.lload_n 2, 1) := by decide +kernel
theorem dX8_in_2 : decode cX8_in 2 = .ok (.lcmp, 1) := by decide +kernel
theorem dX8_in_3 : decode cX8_in 3 = .ok (.ifCond .lt 14, 3) := by decide +kernel
theorem dX8_in_6 : decode cX8_in 6 = .ok (.lload_n 0, 1) := by decide +kernel
theorem dX8_in_7 : decode cX8_in 7 = .ok (.lload 4, 2) := by decide +kernel
theorem dX8_in_9 : decode cX8_in 9 = .ok (.lcmp, 1) := by decide +kernel
theorem dX8_in_10 : decode cX8_in 10 = .ok (.ifCond .gt 7, 3) := by decide +kernel
theorem dX8_in_13 : decode cX8_in 13 = .ok (.iconst 1, 1) := by decide +kernel
theorem dX8_in_14 : decode cX8_in 14 = .ok (.goto 4, 3) := by decide +kernel
theorem dX8_in_17 : decode cX8_in 17 = .ok (.iconst 0, 1) := by decide +kernel
theorem dX8_in_18 : decode cX8_in 18 = .ok (.ireturn, 1) := by decide +kernel
theorem dX8_has_0 : decode cX8_has 0 = .ok (.iload_n 0, 1) := by decide +kernel
theorem dX8_has_1 : decode cX8_has 1 = .ok (.iload_n 1, 1) := by decide +kernel
theorem dX8_has_2 : decode cX8_has 2 = .ok (.ishr, 1) := by decide +kernel
theorem dX8_has_3 : decode cX8_has 3 = .ok (.iconst 1, 1) := by decide +kernel
theorem dX8_has_4 : decode cX8_has 4 = .ok (.iand, 1) := by decide +kernel
theorem dX8_has_5 : decode cX8_has 5 = .ok (.iconst 1, 1) := by decide +kernel
theorem dX8_has_6 : decode cX8_has 6 = .ok (.if_icmp .ne 7, 3) := by decide +kernel
theorem dX8_has_9 : decode cX8_has 9 = .ok (.iconst 1, 1) := by decide +kernel
theorem dX8_has_10 : decode cX8_has 10 = .ok (.goto 4, 3) := by decide +kernel
theorem dX8_has_13 : decode cX8_has 13 = .ok (.iconst 0, 1) := by decide +kernel
theorem dX8_has_14 : decode cX8_has 14 = .ok (.ireturn, 1) := by decide +kernel
theorem dX8_ones_0 : decode cX8_ones 0 = .ok (.iconst 0, 1) := by decide +kernel
theorem dX8_ones_1 : decode cX8_ones 1 = .ok (.istore_n 1, 1) := by decide +kernel
theorem dX8_ones_2 : decode cX8_ones 2 = .ok (.iconst 0, 1) := by decide +kernel
theorem dX8_ones_3 : decode cX8_ones 3 = .ok (.istore_n 2, 1) := by decide +kernel
theorem dX8_ones_4 : decode cX8_ones 4 = .ok (.iload_n 2, 1) := by decide +kernel
theorem dX8_ones_5 : decode cX8_ones 5 = .ok (.iconst 4, 1) := by decide +kernel
theorem dX8_ones_6 : decode cX8_ones 6 = .ok (.if_icmp .ge 17, 3) := by decide +kernel
theorem dX8_ones_9 : decode cX8_ones 9 = .ok (.iload_n 1, 1) := by decide +kernel
theorem dX8_ones_10 : decode cX8_ones 10 = .ok (.iload_n 0, 1) := by decide +kernel
theorem dX8_ones_11 : decode cX8_ones 11 = .ok (.iload_n 2, 1) := by decide +kernel
theorem dX8_ones_12 : decode cX8_ones 12 = .ok (.ishr, 1) := by decide +kernel
theorem dX8_ones_13 : decode cX8_ones 13 = .ok (.iconst 1, 1) := by decide +kernel
theorem dX8_ones_14 : decode cX8_ones 14 = .ok (.iand, 1) := by decide +kernel
theorem dX8_ones_15 : decode cX8_ones 15 = .ok (.iadd, 1) := by decide +kernel
theorem dX8_ones_16 : decode cX8_ones 16 = .ok (.istore_n 1, 1) := by decide +kernel
theorem dX8_ones_17 : decode cX8_ones 17 = .ok (.iinc 2 1, 3) := by decide +kernel
theorem dX8_ones_20 : decode cX8_ones 20 = .ok (.goto (-16), 3) := by decide +kernel
theorem dX8_ones_23 : decode cX8_ones 23 = .ok (.iload_n 1, 1) := by decide +kernel
theorem dX8_ones_24 : decode cX8_ones 24 = .ok (.ireturn, 1) := by decide +kernel
theorem dX8_power_0 : decode cX8_power 0 = .ok (.iconst 1, 1) := by decide +kernel
theorem dX8_power_1 : decode cX8_power 1 = .ok (.istore_n 2, 1) := by decide +kernel
theorem dX8_power_2 : decode cX8_power 2 = .ok (.iconst 0, 1) := by decide +kernel
theorem dX8_power_3 : decode cX8_power 3 = .ok (.istore_n 3, 1) := by decide +kernel
theorem dX8_power_4 : decode cX8_power 4 = .ok (.iload_n 3, 1) := by decide +kernel
theorem dX8_power_5 : decode cX8_power 5 = .ok (.iload_n 1, 1) := by decide +kernel
theorem dX8_power_6 : decode cX8_power 6 = .ok (.if_icmp .ge 13, 3) := by decide +kernel
theorem dX8_power_9 : decode cX8_power 9 = .ok (.iload_n 2, 1) := by decide +kernel
theorem dX8_power_10 : decode cX8_power 10 = .ok (.iload_n 0, 1) := by decide +kernel
theorem dX8_power_11 : decode cX8_power 11 = .ok (.imul, 1) := by decide +kernel
theorem dX8_power_12 : decode cX8_power 12 = .ok (.istore_n 2, 1) := by decide +kernel
theorem dX8_power_13 : decode cX8_power 13 = .ok (.iinc 3 1, 3) := by decide +kernel
theorem dX8_power_16 : decode cX8_power 16 = .ok (.goto (-12), 3) := by decide +kernel
theorem dX8_power_19 : decode cX8_power 19 = .ok (.iload_n 2, 1) := by decide +kernel
theorem dX8_power_20 : decode cX8_power 20 = .ok (.ireturn, 1) := by decide +kernel
theorem dX8_factorial_0 : decode cX8_factorial 0 = .ok (.iconst 1, 1) := by decide +kernel
theorem dX8_factorial_1 : decode cX8_factorial 1 = .ok (.istore_n 1, 1) := by decide +kernel
theorem dX8_factorial_2 : decode cX8_factorial 2 = .ok (.iconst 2, 1) := by decide +kernel
theorem dX8_factorial_3 : decode cX8_factorial 3 = .ok (.istore_n 2, 1) := by decide +kernel
theorem dX8_factorial_4 : decode cX8_factorial 4 = .ok (.iload_n 2, 1) := by decide +kernel
theorem dX8_factorial_5 : decode cX8_factorial 5 = .ok (.iload_n 0, 1) := by decide +kernel
theorem dX8_factorial_6 : decode cX8_factorial 6 = .ok (.if_icmp .gt 13, 3) := by decide +kernel
theorem dX8_factorial_9 : decode cX8_factorial 9 = .ok (.iload_n 1, 1) := by decide +kernel
theorem dX8_factorial_10 : decode cX8_factorial 10 = .ok (.iload_n 2, 1) := by decide +kernel
theorem dX8_factorial_11 : decode cX8_factorial 11 = .ok (.imul, 1) := by decide +kernel
theorem dX8_factorial_12 : decode cX8_factorial 12 = .ok (.istore_n 1, 1) := by decide +kernel
theorem dX8_factorial_13 : decode cX8_factorial 13 = .ok (.iinc 2 1, 3) := by decide +kernel
theorem dX8_factorial_16 : decode cX8_factorial 16 = .ok (.goto (-12), 3) := by decide +kernel
theorem dX8_factorial_19 : decode cX8_factorial 19 = .ok (.iload_n 1, 1) := by decide +kernel
theorem dX8_factorial_20 : decode cX8_factorial 20 = .ok (.ireturn, 1) := by decide +kernel
theorem dX8_fraction_0 : decode cX8_fraction 0 = .ok (.iload_n 0, 1) := by decide +kernel
theorem dX8_fraction_1 : decode cX8_fraction 1 = .ok (.ifCond .ge 8, 3) := by decide +kernel
theorem dX8_fraction_4 : decode cX8_fraction 4 = .ok (.iload_n 0, 1) := by decide +kernel
theorem dX8_fraction_5 : decode cX8_fraction 5 = .ok (.ineg, 1) := by decide +kernel
theorem dX8_fraction_6 : decode cX8_fraction 6 = .ok (.goto 4, 3) := by decide +kernel
theorem dX8_fraction_9 : decode cX8_fraction 9 = .ok (.iload_n 0, 1) := by decide +kernel
theorem dX8_fraction_10 : decode cX8_fraction 10 = .ok (.istore_n 3, 1) := by decide +kernel
theorem dX8_fraction_11 : decode cX8_fraction 11 = .ok (.iload_n 1, 1) := by decide +kernel
theorem dX8_fraction_12 : decode cX8_fraction 12 = .ok (.istore 4, 2) := by decide +kernel
theorem dX8_fraction_14 : decode cX8_fraction 14 = .ok (.iload 4, 2) := by decide +kernel
theorem dX8_fraction_16 : decode cX8_fraction 16 = .ok (.ifCond .eq 19, 3) := by decide +kernel
theorem dX8_fraction_19 : decode cX8_fraction 19 = .ok (.iload_n 3, 1) := by decide +kernel
theorem dX8_fraction_20 : decode cX8_fraction 20 = .ok (.iload 4, 2) := by decide +kernel
theorem dX8_fraction_22 : decode cX8_fraction 22 = .ok (.irem, 1) := by decide +kernel
theorem dX8_fraction_23 : decode cX8_fraction 23 = .ok (.istore 5, 2) := by decide +kernel
theorem dX8_fraction_25 : decode cX8_fraction 25 = .ok (.iload 4, 2) := by decide +kernel
theorem dX8_fraction_27 : decode cX8_fraction 27 = .ok (.istore_n 3, 1) := by decide +kernel
theorem dX8_fraction_28 : decode cX8_fraction 28 = .ok (.iload 5, 2) := by decide +kernel
theorem dX8_fraction_30 : decode cX8_fraction 30 = .ok (.istore 4, 2) := by decide +kernel
theorem dX8_fraction_32 : decode cX8_fraction 32 = .ok (.goto (-18), 3) := by decide +kernel
theorem dX8_fraction_35 : decode cX8_fraction 35 = .ok (.iload_n 2, 1) := by decide +kernel
theorem dX8_fraction_36 : decode cX8_fraction 36 = .ok (.ifCond .eq 9, 3) := by decide +kernel
theorem dX8_fraction_39 : decode cX8_fraction 39 = .ok (.iload_n 0, 1) := by decide +kernel
theorem dX8_fraction_40 : decode cX8_fraction 40 = .ok (.iload_n 3, 1) := by decide +kernel
theorem dX8_fraction_41 : decode cX8_fraction 41 = .ok (.idiv, 1) := by decide +kernel
theorem dX8_fraction_42 : decode cX8_fraction 42 = .ok (.goto 6, 3) := by decide +kernel
theorem dX8_fraction_45 : decode cX8_fraction 45 = .ok (.iload_n 1, 1) := by decide +kernel
theorem dX8_fraction_46 : decode cX8_fraction 46 = .ok (.iload_n 3, 1) := by decide +kernel
theorem dX8_fraction_47 : decode cX8_fraction 47 = .ok (.idiv, 1) := by decide +kernel
theorem dX8_fraction_48 : decode cX8_fraction 48 = .ok (.ireturn, 1) := by decide +kernel
theorem dX8_isShade_0 : decode cX8_isShade 0 = .ok (.iload_n 1, 1) := by decide +kernel
theorem dX8_isShade_1 : decode cX8_isShade 1 = .ok (.i2l, 1) := by decide +kernel
theorem dX8_isShade_2 : decode cX8_isShade 2 = .ok (.lconst 0, 1) := by decide +kernel
theorem dX8_isShade_3 : decode cX8_isShade 3 = .ok (.aload_n 0, 1) := by decide +kernel
theorem dX8_isShade_4 : decode cX8_isShade 4 = .ok (.getfield 54, 3) := by decide +kernel
theorem dX8_isShade_7 : decode cX8_isShade 7 = .ok (.iconst 1, 1) := by decide +kernel
theorem dX8_isShade_8 : decode cX8_isShade 8 = .ok (.isub, 1) := by decide +kernel
theorem dX8_isShade_9 : decode cX8_isShade 9 = .ok (.i2l, 1) := by decide +kernel
theorem dX8_isShade_10 : decode cX8_isShade 10 = .ok (.invokestatic 57, 3) := by decide +kernel
theorem dX8_isShade_13 : decode cX8_isShade 13 = .ok (.ireturn, 1) := by decide +kernel
theorem dX8_isFour_0 : decode cX8_isFour 0 = .ok (.iload_n 0, 1) := by decide +kernel
theorem dX8_isFour_1 : decode cX8_isFour 1 = .ok (.i2l, 1) := by decide +kernel
theorem dX8_isFour_2 : decode cX8_isFour 2 = .ok (.lconst 0, 1) := by decide +kernel
theorem dX8_isFour_3 : decode cX8_isFour 3 = .ok (.ldc2_w 61, 3) := by decide +kernel
theorem dX8_isFour_6 : decode cX8_isFour 6 = .ok (.invokestatic 57, 3) := by decide +kernel
theorem dX8_isFour_9 : decode cX8_isFour 9 = .ok (.ireturn, 1) := by decide +kernel
theorem dX8_write_0 : decode cX8_write 0 = .ok (.iload_n 1, 1) := by decide +kernel
theorem dX8_write_1 : decode cX8_write 1 = .ok (.i2l, 1) := by decide +kernel
theorem dX8_write_2 : decode cX8_write 2 = .ok (.lconst 0, 1) := by decide +kernel
theorem dX8_write_3 : decode cX8_write 3 = .ok (.ldc2_w 63, 3) := by decide +kernel
theorem dX8_write_6 : decode cX8_write 6 = .ok (.invokestatic 57, 3) := by decide +kernel
theorem dX8_write_9 : decode cX8_write 9 = .ok (.ifCond .ne 6, 3) := by decide +kernel
theorem dX8_write_12 : decode cX8_write 12 = .ok (.bipush (-2), 2) := by decide +kernel
theorem dX8_write_14 : decode cX8_write 14 = .ok (.ireturn, 1) := by decide +kernel
theorem dX8_write_15 : decode cX8_write 15 = .ok (.aload_n 0, 1) := by decide +kernel
theorem dX8_write_16 : decode cX8_write 16 = .ok (.getfield 65, 3) := by decide +kernel
theorem dX8_write_19 : decode cX8_write 19 = .ok (.bipush 70, 2) := by decide +kernel
theorem dX8_write_21 : decode cX8_write 21 = .ok (.if_icmp .ne 6, 3) := by decide +kernel
theorem dX8_write_24 : decode cX8_write 24 = .ok (.bipush (-4), 2) := by decide +kernel
theorem dX8_write_26 : decode cX8_write 26 = .ok (.ireturn, 1) := by decide +kernel
theorem dX8_write_27 : decode cX8_write 27 = .ok (.aload_n 0, 1) := by decide +kernel
theorem dX8_write_28 : decode cX8_write 28 = .ok (.getfield 7, 3) := by decide +kernel
theorem dX8_write_31 : decode cX8_write 31 = .ok (.aload_n 0, 1) := by decide +kernel
theorem dX8_write_32 : decode cX8_write 32 = .ok (.getfield 65, 3) := by decide +kernel
theorem dX8_write_35 : decode cX8_write 35 = .ok (.iload_n 1, 1) := by decide +kernel
theorem dX8_write_36 : decode cX8_write 36 = .ok (.iastore, 1) := by decide +kernel
theorem dX8_write_37 : decode cX8_write 37 = .ok (.aload_n 0, 1) := by decide +kernel
theorem dX8_write_38 : decode cX8_write 38 = .ok (.dup, 1) := by decide +kernel
theorem dX8_write_39 : decode cX8_write 39 = .ok (.getfield 65, 3) := by decide +kernel
theorem dX8_write_42 : decode cX8_write 42 = .ok (.iconst 1, 1) := by decide +kernel
theorem dX8_write_43 : decode cX8_write 43 = .ok (.iadd, 1) := by decide +kernel
theorem dX8_write_44 : decode cX8_write 44 = .ok (.putfield 65, 3) := by decide +kernel
theorem dX8_write_47 : decode cX8_write 47 = .ok (.aload_n 0, 1) := by decide +kernel
theorem dX8_write_48 : decode cX8_write 48 = .ok (.getfield 65, 3) := by decide +kernel
theorem dX8_write_51 : decode cX8_write 51 = .ok (.ireturn, 1) := by decide +kernel
theorem dX8_wipe_0 : decode cX8_wipe 0 = .ok (.aload_n 0, 1) := by decide +kernel
theorem dX8_wipe_1 : decode cX8_wipe 1 = .ok (.getfield 65, 3) := by decide +kernel
theorem dX8_wipe_4 : decode cX8_wipe 4 = .ok (.istore_n 1, 1) := by decide +kernel
theorem dX8_wipe_5 : decode cX8_wipe 5 = .ok (.aload_n 0, 1) := by decide +kernel
theorem dX8_wipe_6 : decode cX8_wipe 6 = .ok (.iconst 0, 1) := by decide +kernel
theorem dX8_wipe_7 : decode cX8_wipe 7 = .ok (.putfield 65, 3) := by decide +kernel
theorem dX8_wipe_10 : decode cX8_wipe 10 = .ok (.iload_n 1, 1) := by decide +kernel
theorem dX8_wipe_11 : decode cX8_wipe 11 = .ok (.ireturn, 1) := by decide +kernel
theorem dX8_isEmptyAsRead_0 : decode cX8_isEmptyAsRead 0 = .ok (.iconst 1, 1) := by decide +kernel
theorem dX8_isEmptyAsRead_1 : decode cX8_isEmptyAsRead 1 = .ok (.istore_n 2, 1) := by decide +kernel
theorem dX8_isEmptyAsRead_2 : decode cX8_isEmptyAsRead 2 = .ok (.iconst 0, 1) := by decide +kernel
theorem dX8_isEmptyAsRead_3 : decode cX8_isEmptyAsRead 3 = .ok (.istore_n 3, 1) := by decide +kernel
theorem dX8_isEmptyAsRead_4 : decode cX8_isEmptyAsRead 4 = .ok (.iload_n 3, 1) := by decide +kernel
theorem dX8_isEmptyAsRead_5 : decode cX8_isEmptyAsRead 5 = .ok (.aload_n 0, 1) := by decide +kernel
theorem dX8_isEmptyAsRead_6 : decode cX8_isEmptyAsRead 6 = .ok (.getfield 68, 3) := by decide +kernel
theorem dX8_isEmptyAsRead_9 : decode cX8_isEmptyAsRead 9 = .ok (.if_icmp .ge 29, 3) := by decide +kernel
theorem dX8_isEmptyAsRead_12 : decode cX8_isEmptyAsRead 12 = .ok (.iload_n 2, 1) := by decide +kernel
theorem dX8_isEmptyAsRead_13 : decode cX8_isEmptyAsRead 13 = .ok (.ifCond .eq 17, 3) := by decide +kernel
theorem dX8_isEmptyAsRead_16 : decode cX8_isEmptyAsRead 16 = .ok (.aload_n 0, 1) := by decide +kernel
theorem dX8_isEmptyAsRead_17 : decode cX8_isEmptyAsRead 17 = .ok (.getfield 44, 3) := by decide +kernel
theorem dX8_isEmptyAsRead_20 : decode cX8_isEmptyAsRead 20 = .ok (.iload_n 3, 1) := by decide +kernel
theorem dX8_isEmptyAsRead_21 : decode cX8_isEmptyAsRead 21 = .ok (.iaload, 1) := by decide +kernel
theorem dX8_isEmptyAsRead_22 : decode cX8_isEmptyAsRead 22 = .ok (.iload_n 1, 1) := by decide +kernel
theorem dX8_isEmptyAsRead_23 : decode cX8_isEmptyAsRead 23 = .ok (.if_icmp .eq 7, 3) := by decide +kernel
theorem dX8_isEmptyAsRead_26 : decode cX8_isEmptyAsRead 26 = .ok (.iconst 1, 1) := by decide +kernel
theorem dX8_isEmptyAsRead_27 : decode cX8_isEmptyAsRead 27 = .ok (.goto 4, 3) := by decide +kernel
theorem dX8_isEmptyAsRead_30 : decode cX8_isEmptyAsRead 30 = .ok (.iconst 0, 1) := by decide +kernel
theorem dX8_isEmptyAsRead_31 : decode cX8_isEmptyAsRead 31 = .ok (.istore_n 2, 1) := by decide +kernel
theorem dX8_isEmptyAsRead_32 : decode cX8_isEmptyAsRead 32 = .ok (.iinc 3 1, 3) := by decide +kernel
theorem dX8_isEmptyAsRead_35 : decode cX8_isEmptyAsRead 35 = .ok (.goto (-31), 3) := by decide +kernel
theorem dX8_isEmptyAsRead_38 : decode cX8_isEmptyAsRead 38 = .ok (.iload_n 2, 1) := by decide +kernel
theorem dX8_isEmptyAsRead_39 : decode cX8_isEmptyAsRead 39 = .ok (.ireturn, 1) := by decide +kernel
theorem dX8_hasRoomAsRead_0 : decode cX8_hasRoomAsRead 0 = .ok (.iconst 0, 1) := by decide +kernel
theorem dX8_hasRoomAsRead_1 : decode cX8_hasRoomAsRead 1 = .ok (.istore_n 2, 1) := by decide +kernel
theorem dX8_hasRoomAsRead_2 : decode cX8_hasRoomAsRead 2 = .ok (.iconst 0, 1) := by decide +kernel
theorem dX8_hasRoomAsRead_3 : decode cX8_hasRoomAsRead 3 = .ok (.istore_n 3, 1) := by decide +kernel
theorem dX8_hasRoomAsRead_4 : decode cX8_hasRoomAsRead 4 = .ok (.iload_n 3, 1) := by decide +kernel
theorem dX8_hasRoomAsRead_5 : decode cX8_hasRoomAsRead 5 = .ok (.aload_n 0, 1) := by decide +kernel
theorem dX8_hasRoomAsRead_6 : decode cX8_hasRoomAsRead 6 = .ok (.getfield 71, 3) := by decide +kernel
theorem dX8_hasRoomAsRead_9 : decode cX8_hasRoomAsRead 9 = .ok (.if_icmp .ge 32, 3) := by decide +kernel
theorem dX8_hasRoomAsRead_12 : decode cX8_hasRoomAsRead 12 = .ok (.iload_n 2, 1) := by decide +kernel
theorem dX8_hasRoomAsRead_13 : decode cX8_hasRoomAsRead 13 = .ok (.ifCond .ne 16, 3) := by decide +kernel
theorem dX8_hasRoomAsRead_16 : decode cX8_hasRoomAsRead 16 = .ok (.aload_n 0, 1) := by decide +kernel
theorem dX8_hasRoomAsRead_17 : decode cX8_hasRoomAsRead 17 = .ok (.bipush 6, 2) := by decide +kernel
theorem dX8_hasRoomAsRead_19 : decode cX8_hasRoomAsRead 19 = .ok (.iload_n 1, 1) := by decide +kernel
theorem dX8_hasRoomAsRead_20 : decode cX8_hasRoomAsRead 20 = .ok (.imul, 1) := by decide +kernel
theorem dX8_hasRoomAsRead_21 : decode cX8_hasRoomAsRead 21 = .ok (.iload_n 3, 1) := by decide +kernel
theorem dX8_hasRoomAsRead_22 : decode cX8_hasRoomAsRead 22 = .ok (.iadd, 1) := by decide +kernel
theorem dX8_hasRoomAsRead_23 : decode cX8_hasRoomAsRead 23 = .ok (.invokevirtual 74, 3) := by decide +kernel
theorem dX8_hasRoomAsRead_26 : decode cX8_hasRoomAsRead 26 = .ok (.ifCond .eq 7, 3) := by decide +kernel
theorem dX8_hasRoomAsRead_29 : decode cX8_hasRoomAsRead 29 = .ok (.iconst 1, 1) := by decide +kernel
theorem dX8_hasRoomAsRead_30 : decode cX8_hasRoomAsRead 30 = .ok (.goto 4, 3) := by decide +kernel
theorem dX8_hasRoomAsRead_33 : decode cX8_hasRoomAsRead 33 = .ok (.iconst 0, 1) := by decide +kernel
theorem dX8_hasRoomAsRead_34 : decode cX8_hasRoomAsRead 34 = .ok (.istore_n 2, 1) := by decide +kernel
theorem dX8_hasRoomAsRead_35 : decode cX8_hasRoomAsRead 35 = .ok (.iinc 3 1, 3) := by decide +kernel
theorem dX8_hasRoomAsRead_38 : decode cX8_hasRoomAsRead 38 = .ok (.goto (-34), 3) := by decide +kernel
theorem dX8_hasRoomAsRead_41 : decode cX8_hasRoomAsRead 41 = .ok (.iload_n 2, 1) := by decide +kernel
theorem dX8_hasRoomAsRead_42 : decode cX8_hasRoomAsRead 42 = .ok (.ireturn, 1) := by decide +kernel
theorem dX8_take_0 : decode cX8_take 0 = .ok (.iload_n 1, 1) := by decide +kernel
theorem dX8_take_1 : decode cX8_take 1 = .ok (.bipush 48, 2) := by decide +kernel
theorem dX8_take_3 : decode cX8_take 3 = .ok (.isub, 1) := by decide +kernel
theorem dX8_take_4 : decode cX8_take 4 = .ok (.istore_n 2, 1) := by decide +kernel
theorem dX8_take_5 : decode cX8_take 5 = .ok (.aload_n 0, 1) := by decide +kernel
theorem dX8_take_6 : decode cX8_take 6 = .ok (.getfield 78, 3) := by decide +kernel
theorem dX8_take_9 : decode cX8_take 9 = .ok (.tableswitch 180 1 4 #[31, 51, 71, 111], 31) := by decide +kernel
theorem dX8_take_40 : decode cX8_take 40 = .ok (.aload_n 0, 1) := by decide +kernel
theorem dX8_take_41 : decode cX8_take 41 = .ok (.iload_n 2, 1) := by decide +kernel
theorem dX8_take_42 : decode cX8_take 42 = .ok (.putfield 81, 3) := by decide +kernel
theorem dX8_take_45 : decode cX8_take 45 = .ok (.aload_n 0, 1) := by decide +kernel
theorem dX8_take_46 : decode cX8_take 46 = .ok (.iconst 2, 1) := by decide +kernel
theorem dX8_take_47 : decode cX8_take 47 = .ok (.putfield 78, 3) := by decide +kernel
theorem dX8_take_50 : decode cX8_take 50 = .ok (.iload_n 2, 1) := by decide +kernel
theorem dX8_take_51 : decode cX8_take 51 = .ok (.i2l, 1) := by decide +kernel
theorem dX8_take_52 : decode cX8_take 52 = .ok (.lconst 1, 1) := by decide +kernel
theorem dX8_take_53 : decode cX8_take 53 = .ok (.ldc2_w 84, 3) := by decide +kernel
theorem dX8_take_56 : decode cX8_take 56 = .ok (.invokestatic 57, 3) := by decide +kernel
theorem dX8_take_59 : decode cX8_take 59 = .ok (.ireturn, 1) := by decide +kernel
theorem dX8_take_60 : decode cX8_take 60 = .ok (.aload_n 0, 1) := by decide +kernel
theorem dX8_take_61 : decode cX8_take 61 = .ok (.iload_n 2, 1) := by decide +kernel
theorem dX8_take_62 : decode cX8_take 62 = .ok (.putfield 71, 3) := by decide +kernel
theorem dX8_take_65 : decode cX8_take 65 = .ok (.aload_n 0, 1) := by decide +kernel
theorem dX8_take_66 : decode cX8_take 66 = .ok (.iconst 0, 1) := by decide +kernel
theorem dX8_take_67 : decode cX8_take 67 = .ok (.putfield 78, 3) := by decide +kernel
theorem dX8_take_70 : decode cX8_take 70 = .ok (.iload_n 2, 1) := by decide +kernel
theorem dX8_take_71 : decode cX8_take 71 = .ok (.i2l, 1) := by decide +kernel
theorem dX8_take_72 : decode cX8_take 72 = .ok (.lconst 1, 1) := by decide +kernel
theorem dX8_take_73 : decode cX8_take 73 = .ok (.ldc2_w 84, 3) := by decide +kernel
theorem dX8_take_76 : decode cX8_take 76 = .ok (.invokestatic 57, 3) := by decide +kernel
theorem dX8_take_79 : decode cX8_take 79 = .ok (.ireturn, 1) := by decide +kernel
theorem dX8_take_80 : decode cX8_take 80 = .ok (.aload_n 0, 1) := by decide +kernel
theorem dX8_take_81 : decode cX8_take 81 = .ok (.iload_n 2, 1) := by decide +kernel
theorem dX8_take_82 : decode cX8_take 82 = .ok (.putfield 86, 3) := by decide +kernel
theorem dX8_take_85 : decode cX8_take 85 = .ok (.aload_n 0, 1) := by decide +kernel
theorem dX8_take_86 : decode cX8_take 86 = .ok (.iconst 4, 1) := by decide +kernel
theorem dX8_take_87 : decode cX8_take 87 = .ok (.putfield 78, 3) := by decide +kernel
theorem dX8_take_90 : decode cX8_take 90 = .ok (.iload_n 2, 1) := by decide +kernel
theorem dX8_take_91 : decode cX8_take 91 = .ok (.i2l, 1) := by decide +kernel
theorem dX8_take_92 : decode cX8_take 92 = .ok (.lconst 0, 1) := by decide +kernel
theorem dX8_take_93 : decode cX8_take 93 = .ok (.aload_n 0, 1) := by decide +kernel
theorem dX8_take_94 : decode cX8_take 94 = .ok (.getfield 81, 3) := by decide +kernel
theorem dX8_take_97 : decode cX8_take 97 = .ok (.iconst 1, 1) := by decide +kernel
theorem dX8_take_98 : decode cX8_take 98 = .ok (.isub, 1) := by decide +kernel
theorem dX8_take_99 : decode cX8_take 99 = .ok (.i2l, 1) := by decide +kernel
theorem dX8_take_100 : decode cX8_take 100 = .ok (.invokestatic 57, 3) := by decide +kernel
theorem dX8_take_103 : decode cX8_take 103 = .ok (.ifCond .eq 15, 3) := by decide +kernel
theorem dX8_take_106 : decode cX8_take 106 = .ok (.aload_n 0, 1) := by decide +kernel
theorem dX8_take_107 : decode cX8_take 107 = .ok (.iload_n 2, 1) := by decide +kernel
theorem dX8_take_108 : decode cX8_take 108 = .ok (.invokevirtual 89, 3) := by decide +kernel
theorem dX8_take_111 : decode cX8_take 111 = .ok (.ifCond .eq 7, 3) := by decide +kernel
theorem dX8_take_114 : decode cX8_take 114 = .ok (.iconst 1, 1) := by decide +kernel
theorem dX8_take_115 : decode cX8_take 115 = .ok (.goto 4, 3) := by decide +kernel
theorem dX8_take_118 : decode cX8_take 118 = .ok (.iconst 0, 1) := by decide +kernel
theorem dX8_take_119 : decode cX8_take 119 = .ok (.ireturn, 1) := by decide +kernel
theorem dX8_take_120 : decode cX8_take 120 = .ok (.iload_n 2, 1) := by decide +kernel
theorem dX8_take_121 : decode cX8_take 121 = .ok (.i2l, 1) := by decide +kernel
theorem dX8_take_122 : decode cX8_take 122 = .ok (.lconst 0, 1) := by decide +kernel
theorem dX8_take_123 : decode cX8_take 123 = .ok (.aload_n 0, 1) := by decide +kernel
theorem dX8_take_124 : decode cX8_take 124 = .ok (.getfield 71, 3) := by decide +kernel
theorem dX8_take_127 : decode cX8_take 127 = .ok (.iconst 1, 1) := by decide +kernel
theorem dX8_take_128 : decode cX8_take 128 = .ok (.isub, 1) := by decide +kernel
theorem dX8_take_129 : decode cX8_take 129 = .ok (.i2l, 1) := by decide +kernel
theorem dX8_take_130 : decode cX8_take 130 = .ok (.invokestatic 57, 3) := by decide +kernel
theorem dX8_take_133 : decode cX8_take 133 = .ok (.ifCond .eq 19, 3) := by decide +kernel
theorem dX8_take_136 : decode cX8_take 136 = .ok (.aload_n 0, 1) := by decide +kernel
theorem dX8_take_137 : decode cX8_take 137 = .ok (.bipush 6, 2) := by decide +kernel
theorem dX8_take_139 : decode cX8_take 139 = .ok (.aload_n 0, 1) := by decide +kernel
theorem dX8_take_140 : decode cX8_take 140 = .ok (.getfield 86, 3) := by decide +kernel
theorem dX8_take_143 : decode cX8_take 143 = .ok (.imul, 1) := by decide +kernel
theorem dX8_take_144 : decode cX8_take 144 = .ok (.iload_n 2, 1) := by decide +kernel
theorem dX8_take_145 : decode cX8_take 145 = .ok (.iadd, 1) := by decide +kernel
theorem dX8_take_146 : decode cX8_take 146 = .ok (.invokevirtual 74, 3) := by decide +kernel
theorem dX8_take_149 : decode cX8_take 149 = .ok (.ifCond .ne 5, 3) := by decide +kernel
theorem dX8_take_152 : decode cX8_take 152 = .ok (.iconst 0, 1) := by decide +kernel
theorem dX8_take_153 : decode cX8_take 153 = .ok (.ireturn, 1) := by decide +kernel
theorem dX8_take_154 : decode cX8_take 154 = .ok (.aload_n 0, 1) := by decide +kernel
theorem dX8_take_155 : decode cX8_take 155 = .ok (.getfield 44, 3) := by decide +kernel
theorem dX8_take_158 : decode cX8_take 158 = .ok (.aload_n 0, 1) := by decide +kernel
theorem dX8_take_159 : decode cX8_take 159 = .ok (.getfield 68, 3) := by decide +kernel
theorem dX8_take_162 : decode cX8_take 162 = .ok (.bipush 6, 2) := by decide +kernel
theorem dX8_take_164 : decode cX8_take 164 = .ok (.aload_n 0, 1) := by decide +kernel
theorem dX8_take_165 : decode cX8_take 165 = .ok (.getfield 86, 3) := by decide +kernel
theorem dX8_take_168 : decode cX8_take 168 = .ok (.imul, 1) := by decide +kernel
theorem dX8_take_169 : decode cX8_take 169 = .ok (.iload_n 2, 1) := by decide +kernel
theorem dX8_take_170 : decode cX8_take 170 = .ok (.iadd, 1) := by decide +kernel
theorem dX8_take_171 : decode cX8_take 171 = .ok (.iastore, 1) := by decide +kernel
theorem dX8_take_172 : decode cX8_take 172 = .ok (.aload_n 0, 1) := by decide +kernel
theorem dX8_take_173 : decode cX8_take 173 = .ok (.dup, 1) := by decide +kernel
theorem dX8_take_174 : decode cX8_take 174 = .ok (.getfield 68, 3) := by decide +kernel
theorem dX8_take_177 : decode cX8_take 177 = .ok (.iconst 1, 1) := by decide +kernel
theorem dX8_take_178 : decode cX8_take 178 = .ok (.iadd, 1) := by decide +kernel
theorem dX8_take_179 : decode cX8_take 179 = .ok (.putfield 68, 3) := by decide +kernel
theorem dX8_take_182 : decode cX8_take 182 = .ok (.aload_n 0, 1) := by decide +kernel
theorem dX8_take_183 : decode cX8_take 183 = .ok (.iconst 0, 1) := by decide +kernel
theorem dX8_take_184 : decode cX8_take 184 = .ok (.putfield 78, 3) := by decide +kernel
theorem dX8_take_187 : decode cX8_take 187 = .ok (.iconst 1, 1) := by decide +kernel
theorem dX8_take_188 : decode cX8_take 188 = .ok (.ireturn, 1) := by decide +kernel
theorem dX8_take_189 : decode cX8_take 189 = .ok (.aload_n 0, 1) := by decide +kernel
theorem dX8_take_190 : decode cX8_take 190 = .ok (.iconst 3, 1) := by decide +kernel
theorem dX8_take_191 : decode cX8_take 191 = .ok (.putfield 78, 3) := by decide +kernel
theorem dX8_take_194 : decode cX8_take 194 = .ok (.iload_n 1, 1) := by decide +kernel
theorem dX8_take_195 : decode cX8_take 195 = .ok (.bipush 105, 2) := by decide +kernel
theorem dX8_take_197 : decode cX8_take 197 = .ok (.if_icmp .ne 32, 3) := by decide +kernel
theorem dX8_take_200 : decode cX8_take 200 = .ok (.aload_n 0, 1) := by decide +kernel
theorem dX8_take_201 : decode cX8_take 201 = .ok (.getfield 68, 3) := by decide +kernel
theorem dX8_take_204 : decode cX8_take 204 = .ok (.bipush 20, 2) := by decide +kernel
theorem dX8_take_206 : decode cX8_take 206 = .ok (.if_icmp .ge 23, 3) := by decide +kernel
theorem dX8_take_209 : decode cX8_take 209 = .ok (.aload_n 0, 1) := by decide +kernel
theorem dX8_take_210 : decode cX8_take 210 = .ok (.getfield 68, 3) := by decide +kernel
theorem dX8_take_213 : decode cX8_take 213 = .ok (.aload_n 0, 1) := by decide +kernel
theorem dX8_take_214 : decode cX8_take 214 = .ok (.getfield 81, 3) := by decide +kernel
theorem dX8_take_217 : decode cX8_take 217 = .ok (.aload_n 0, 1) := by decide +kernel
theorem dX8_take_218 : decode cX8_take 218 = .ok (.getfield 71, 3) := by decide +kernel
theorem dX8_take_221 : decode cX8_take 221 = .ok (.imul, 1) := by decide +kernel
theorem dX8_take_222 : decode cX8_take 222 = .ok (.if_icmp .ge 7, 3) := by decide +kernel
theorem dX8_take_225 : decode cX8_take 225 = .ok (.iconst 1, 1) := by decide +kernel
theorem dX8_take_226 : decode cX8_take 226 = .ok (.goto 4, 3) := by decide +kernel
theorem dX8_take_229 : decode cX8_take 229 = .ok (.iconst 0, 1) := by decide +kernel
theorem dX8_take_230 : decode cX8_take 230 = .ok (.ireturn, 1) := by decide +kernel
theorem dX8_readText_0 : decode cX8_readText 0 = .ok (.aload_n 0, 1) := by decide +kernel
theorem dX8_readText_1 : decode cX8_readText 1 = .ok (.iconst 0, 1) := by decide +kernel
theorem dX8_readText_2 : decode cX8_readText 2 = .ok (.putfield 68, 3) := by decide +kernel
theorem dX8_readText_5 : decode cX8_readText 5 = .ok (.aload_n 0, 1) := by decide +kernel
theorem dX8_readText_6 : decode cX8_readText 6 = .ok (.iconst 1, 1) := by decide +kernel
theorem dX8_readText_7 : decode cX8_readText 7 = .ok (.putfield 78, 3) := by decide +kernel
theorem dX8_readText_10 : decode cX8_readText 10 = .ok (.aload_n 0, 1) := by decide +kernel
theorem dX8_readText_11 : decode cX8_readText 11 = .ok (.getfield 65, 3) := by decide +kernel
theorem dX8_readText_14 : decode cX8_readText 14 = .ok (.ifCond .eq 14, 3) := by decide +kernel
theorem dX8_readText_17 : decode cX8_readText 17 = .ok (.aload_n 0, 1) := by decide +kernel
theorem dX8_readText_18 : decode cX8_readText 18 = .ok (.getfield 7, 3) := by decide +kernel
theorem dX8_readText_21 : decode cX8_readText 21 = .ok (.iconst 0, 1) := by decide +kernel
theorem dX8_readText_22 : decode cX8_readText 22 = .ok (.iaload, 1) := by decide +kernel
theorem dX8_readText_23 : decode cX8_readText 23 = .ok (.bipush 77, 2) := by decide +kernel
theorem dX8_readText_25 : decode cX8_readText 25 = .ok (.if_icmp .eq 5, 3) := by decide +kernel
theorem dX8_readText_28 : decode cX8_readText 28 = .ok (.iconst 0, 1) := by decide +kernel
theorem dX8_readText_29 : decode cX8_readText 29 = .ok (.ireturn, 1) := by decide +kernel
theorem dX8_readText_30 : decode cX8_readText 30 = .ok (.iconst 1, 1) := by decide +kernel
theorem dX8_readText_31 : decode cX8_readText 31 = .ok (.istore_n 1, 1) := by decide +kernel
theorem dX8_readText_32 : decode cX8_readText 32 = .ok (.iload_n 1, 1) := by decide +kernel
theorem dX8_readText_33 : decode cX8_readText 33 = .ok (.aload_n 0, 1) := by decide +kernel
theorem dX8_readText_34 : decode cX8_readText 34 = .ok (.getfield 65, 3) := by decide +kernel
theorem dX8_readText_37 : decode cX8_readText 37 = .ok (.if_icmp .ge 24, 3) := by decide +kernel
theorem dX8_readText_40 : decode cX8_readText 40 = .ok (.aload_n 0, 1) := by decide +kernel
theorem dX8_readText_41 : decode cX8_readText 41 = .ok (.aload_n 0, 1) := by decide +kernel
theorem dX8_readText_42 : decode cX8_readText 42 = .ok (.getfield 7, 3) := by decide +kernel
theorem dX8_readText_45 : decode cX8_readText 45 = .ok (.iload_n 1, 1) := by decide +kernel
theorem dX8_readText_46 : decode cX8_readText 46 = .ok (.iaload, 1) := by decide +kernel
theorem dX8_readText_47 : decode cX8_readText 47 = .ok (.invokevirtual 92, 3) := by decide +kernel
theorem dX8_readText_50 : decode cX8_readText 50 = .ok (.ifCond .ne 5, 3) := by decide +kernel
theorem dX8_readText_53 : decode cX8_readText 53 = .ok (.iload_n 1, 1) := by decide +kernel
theorem dX8_readText_54 : decode cX8_readText 54 = .ok (.ireturn, 1) := by decide +kernel
theorem dX8_readText_55 : decode cX8_readText 55 = .ok (.iinc 1 1, 3) := by decide +kernel
theorem dX8_readText_58 : decode cX8_readText 58 = .ok (.goto (-26), 3) := by decide +kernel
theorem dX8_readText_61 : decode cX8_readText 61 = .ok (.aload_n 0, 1) := by decide +kernel
theorem dX8_readText_62 : decode cX8_readText 62 = .ok (.getfield 78, 3) := by decide +kernel
theorem dX8_readText_65 : decode cX8_readText 65 = .ok (.ifCond .ne 8, 3) := by decide +kernel
theorem dX8_readText_68 : decode cX8_readText 68 = .ok (.bipush (-9), 2) := by decide +kernel
theorem dX8_readText_70 : decode cX8_readText 70 = .ok (.goto 7, 3) := by decide +kernel
theorem dX8_readText_73 : decode cX8_readText 73 = .ok (.aload_n 0, 1) := by decide +kernel
theorem dX8_readText_74 : decode cX8_readText 74 = .ok (.getfield 65, 3) := by decide +kernel
theorem dX8_readText_77 : decode cX8_readText 77 = .ok (.ireturn, 1) := by decide +kernel
theorem dX8_fault_0 : decode cX8_fault 0 = .ok (.aload_n 0, 1) := by decide +kernel
theorem dX8_fault_1 : decode cX8_fault 1 = .ok (.invokevirtual 95, 3) := by decide +kernel
theorem dX8_fault_4 : decode cX8_fault 4 = .ok (.ireturn, 1) := by decide +kernel
theorem dX8_map_0 : decode cX8_map 0 = .ok (.aload_n 0, 1) := by decide +kernel
theorem dX8_map_1 : decode cX8_map 1 = .ok (.invokevirtual 95, 3) := by decide +kernel
theorem dX8_map_4 : decode cX8_map 4 = .ok (.bipush (-9), 2) := by decide +kernel
theorem dX8_map_6 : decode cX8_map 6 = .ok (.if_icmp .eq 6, 3) := by decide +kernel
theorem dX8_map_9 : decode cX8_map 9 = .ok (.bipush (-3), 2) := by decide +kernel
theorem dX8_map_11 : decode cX8_map 11 = .ok (.ireturn, 1) := by decide +kernel
theorem dX8_map_12 : decode cX8_map 12 = .ok (.iconst 0, 1) := by decide +kernel
theorem dX8_map_13 : decode cX8_map 13 = .ok (.istore_n 1, 1) := by decide +kernel
theorem dX8_map_14 : decode cX8_map 14 = .ok (.iload_n 1, 1) := by decide +kernel
theorem dX8_map_15 : decode cX8_map 15 = .ok (.bipush 38, 2) := by decide +kernel
theorem dX8_map_17 : decode cX8_map 17 = .ok (.if_icmp .ge 16, 3) := by decide +kernel
theorem dX8_map_20 : decode cX8_map 20 = .ok (.aload_n 0, 1) := by decide +kernel
theorem dX8_map_21 : decode cX8_map 21 = .ok (.getfield 13, 3) := by decide +kernel
theorem dX8_map_24 : decode cX8_map 24 = .ok (.iload_n 1, 1) := by decide +kernel
theorem dX8_map_25 : decode cX8_map 25 = .ok (.iconst 0, 1) := by decide +kernel
theorem dX8_map_26 : decode cX8_map 26 = .ok (.iastore, 1) := by decide +kernel
theorem dX8_map_27 : decode cX8_map 27 = .ok (.iinc 1 1, 3) := by decide +kernel
theorem dX8_map_30 : decode cX8_map 30 = .ok (.goto (-16), 3) := by decide +kernel
theorem dX8_map_33 : decode cX8_map 33 = .ok (.aload_n 0, 1) := by decide +kernel
theorem dX8_map_34 : decode cX8_map 34 = .ok (.aload_n 0, 1) := by decide +kernel
theorem dX8_map_35 : decode cX8_map 35 = .ok (.getfield 81, 3) := by decide +kernel
theorem dX8_map_38 : decode cX8_map 38 = .ok (.putfield 47, 3) := by decide +kernel
theorem dX8_map_41 : decode cX8_map 41 = .ok (.aload_n 0, 1) := by decide +kernel
theorem dX8_map_42 : decode cX8_map 42 = .ok (.aload_n 0, 1) := by decide +kernel
theorem dX8_map_43 : decode cX8_map 43 = .ok (.getfield 71, 3) := by decide +kernel
theorem dX8_map_46 : decode cX8_map 46 = .ok (.putfield 51, 3) := by decide +kernel
theorem dX8_map_49 : decode cX8_map 49 = .ok (.aload_n 0, 1) := by decide +kernel
theorem dX8_map_50 : decode cX8_map 50 = .ok (.aload_n 0, 1) := by decide +kernel
theorem dX8_map_51 : decode cX8_map 51 = .ok (.getfield 68, 3) := by decide +kernel
theorem dX8_map_54 : decode cX8_map 54 = .ok (.putfield 54, 3) := by decide +kernel
theorem dX8_map_57 : decode cX8_map 57 = .ok (.iconst 0, 1) := by decide +kernel
theorem dX8_map_58 : decode cX8_map 58 = .ok (.istore_n 1, 1) := by decide +kernel
theorem dX8_map_59 : decode cX8_map 59 = .ok (.iload_n 1, 1) := by decide +kernel
theorem dX8_map_60 : decode cX8_map 60 = .ok (.aload_n 0, 1) := by decide +kernel
theorem dX8_map_61 : decode cX8_map 61 = .ok (.getfield 54, 3) := by decide +kernel
theorem dX8_map_64 : decode cX8_map 64 = .ok (.if_icmp .ge 21, 3) := by decide +kernel
theorem dX8_map_67 : decode cX8_map 67 = .ok (.aload_n 0, 1) := by decide +kernel
theorem dX8_map_68 : decode cX8_map 68 = .ok (.getfield 13, 3) := by decide +kernel
theorem dX8_map_71 : decode cX8_map 71 = .ok (.iload_n 1, 1) := by decide +kernel
theorem dX8_map_72 : decode cX8_map 72 = .ok (.aload_n 0, 1) := by decide +kernel
theorem dX8_map_73 : decode cX8_map 73 = .ok (.getfield 44, 3) := by decide +kernel
theorem dX8_map_76 : decode cX8_map 76 = .ok (.iload_n 1, 1) := by decide +kernel
theorem dX8_map_77 : decode cX8_map 77 = .ok (.iaload, 1) := by decide +kernel
theorem dX8_map_78 : decode cX8_map 78 = .ok (.iastore, 1) := by decide +kernel
theorem dX8_map_79 : decode cX8_map 79 = .ok (.iinc 1 1, 3) := by decide +kernel
theorem dX8_map_82 : decode cX8_map 82 = .ok (.goto (-23), 3) := by decide +kernel
theorem dX8_map_85 : decode cX8_map 85 = .ok (.aload_n 0, 1) := by decide +kernel
theorem dX8_map_86 : decode cX8_map 86 = .ok (.getfield 13, 3) := by decide +kernel
theorem dX8_map_89 : decode cX8_map 89 = .ok (.bipush 36, 2) := by decide +kernel
theorem dX8_map_91 : decode cX8_map 91 = .ok (.iconst 1, 1) := by decide +kernel
theorem dX8_map_92 : decode cX8_map 92 = .ok (.iastore, 1) := by decide +kernel
theorem dX8_map_93 : decode cX8_map 93 = .ok (.aload_n 0, 1) := by decide +kernel
theorem dX8_map_94 : decode cX8_map 94 = .ok (.iconst 0, 1) := by decide +kernel
theorem dX8_map_95 : decode cX8_map 95 = .ok (.putfield 99, 3) := by decide +kernel
theorem dX8_map_98 : decode cX8_map 98 = .ok (.aload_n 0, 1) := by decide +kernel
theorem dX8_map_99 : decode cX8_map 99 = .ok (.getfield 25, 3) := by decide +kernel
theorem dX8_map_102 : decode cX8_map 102 = .ok (.iconst 0, 1) := by decide +kernel
theorem dX8_map_103 : decode cX8_map 103 = .ok (.iconst 0, 1) := by decide +kernel
theorem dX8_map_104 : decode cX8_map 104 = .ok (.bastore, 1) := by decide +kernel
theorem dX8_map_105 : decode cX8_map 105 = .ok (.aload_n 0, 1) := by decide +kernel
theorem dX8_map_106 : decode cX8_map 106 = .ok (.getfield 25, 3) := by decide +kernel
theorem dX8_map_109 : decode cX8_map 109 = .ok (.iconst 1, 1) := by decide +kernel
theorem dX8_map_110 : decode cX8_map 110 = .ok (.iconst 0, 1) := by decide +kernel
theorem dX8_map_111 : decode cX8_map 111 = .ok (.bastore, 1) := by decide +kernel
theorem dX8_map_112 : decode cX8_map 112 = .ok (.aload_n 0, 1) := by decide +kernel
theorem dX8_map_113 : decode cX8_map 113 = .ok (.getfield 54, 3) := by decide +kernel
theorem dX8_map_116 : decode cX8_map 116 = .ok (.ireturn, 1) := by decide +kernel
theorem dX8_lineOf_0 : decode cX8_lineOf 0 = .ok (.iload_n 1, 1) := by decide +kernel
theorem dX8_lineOf_1 : decode cX8_lineOf 1 = .ok (.ifCond .ne 10, 3) := by decide +kernel
theorem dX8_lineOf_4 : decode cX8_lineOf 4 = .ok (.iload_n 0, 1) := by decide +kernel
theorem dX8_lineOf_5 : decode cX8_lineOf 5 = .ok (.bipush 6, 2) := by decide +kernel
theorem dX8_lineOf_7 : decode cX8_lineOf 7 = .ok (.idiv, 1) := by decide +kernel
theorem dX8_lineOf_8 : decode cX8_lineOf 8 = .ok (.goto 7, 3) := by decide +kernel
theorem dX8_lineOf_11 : decode cX8_lineOf 11 = .ok (.iload_n 0, 1) := by decide +kernel
theorem dX8_lineOf_12 : decode cX8_lineOf 12 = .ok (.bipush 6, 2) := by decide +kernel
theorem dX8_lineOf_14 : decode cX8_lineOf 14 = .ok (.irem, 1) := by decide +kernel
theorem dX8_lineOf_15 : decode cX8_lineOf 15 = .ok (.ireturn, 1) := by decide +kernel
theorem dX8_guessOf_0 : decode cX8_guessOf 0 = .ok (.bipush (-9), 2) := by decide +kernel
theorem dX8_guessOf_2 : decode cX8_guessOf 2 = .ok (.istore 4, 2) := by decide +kernel
theorem dX8_guessOf_4 : decode cX8_guessOf 4 = .ok (.iconst 0, 1) := by decide +kernel
theorem dX8_guessOf_5 : decode cX8_guessOf 5 = .ok (.istore 5, 2) := by decide +kernel
theorem dX8_guessOf_7 : decode cX8_guessOf 7 = .ok (.iconst 0, 1) := by decide +kernel
theorem dX8_guessOf_8 : decode cX8_guessOf 8 = .ok (.istore 6, 2) := by decide +kernel
theorem dX8_guessOf_10 : decode cX8_guessOf 10 = .ok (.iload 6, 2) := by decide +kernel
theorem dX8_guessOf_12 : decode cX8_guessOf 12 = .ok (.aload_n 0, 1) := by decide +kernel
theorem dX8_guessOf_13 : decode cX8_guessOf 13 = .ok (.getfield 54, 3) := by decide +kernel
theorem dX8_guessOf_16 : decode cX8_guessOf 16 = .ok (.if_icmp .ge 91, 3) := by decide +kernel
theorem dX8_guessOf_19 : decode cX8_guessOf 19 = .ok (.iconst 0, 1) := by decide +kernel
theorem dX8_guessOf_20 : decode cX8_guessOf 20 = .ok (.istore 7, 2) := by decide +kernel
theorem dX8_guessOf_22 : decode cX8_guessOf 22 = .ok (.iconst 0, 1) := by decide +kernel
theorem dX8_guessOf_23 : decode cX8_guessOf 23 = .ok (.istore 8, 2) := by decide +kernel
theorem dX8_guessOf_25 : decode cX8_guessOf 25 = .ok (.iconst 0, 1) := by decide +kernel
theorem dX8_guessOf_26 : decode cX8_guessOf 26 = .ok (.istore 9, 2) := by decide +kernel
theorem dX8_guessOf_28 : decode cX8_guessOf 28 = .ok (.iload 9, 2) := by decide +kernel
theorem dX8_guessOf_30 : decode cX8_guessOf 30 = .ok (.aload_n 0, 1) := by decide +kernel
theorem dX8_guessOf_31 : decode cX8_guessOf 31 = .ok (.getfield 54, 3) := by decide +kernel
theorem dX8_guessOf_34 : decode cX8_guessOf 34 = .ok (.if_icmp .ge 40, 3) := by decide +kernel
theorem dX8_guessOf_37 : decode cX8_guessOf 37 = .ok (.aload_n 1, 1) := by decide +kernel
theorem dX8_guessOf_38 : decode cX8_guessOf 38 = .ok (.iload 9, 2) := by decide +kernel
theorem dX8_guessOf_40 : decode cX8_guessOf 40 = .ok (.iaload, 1) := by decide +kernel
theorem dX8_guessOf_41 : decode cX8_guessOf 41 = .ok (.iload_n 2, 1) := by decide +kernel
theorem dX8_guessOf_42 : decode cX8_guessOf 42 = .ok (.invokestatic 102, 3) := by decide +kernel
theorem dX8_guessOf_45 : decode cX8_guessOf 45 = .ok (.iload_n 3, 1) := by decide +kernel
theorem dX8_guessOf_46 : decode cX8_guessOf 46 = .ok (.if_icmp .ne 22, 3) := by decide +kernel
theorem dX8_guessOf_49 : decode cX8_guessOf 49 = .ok (.iload 7, 2) := by decide +kernel
theorem dX8_guessOf_51 : decode cX8_guessOf 51 = .ok (.iload 9, 2) := by decide +kernel
theorem dX8_guessOf_53 : decode cX8_guessOf 53 = .ok (.iload 6, 2) := by decide +kernel
theorem dX8_guessOf_55 : decode cX8_guessOf 55 = .ok (.isub, 1) := by decide +kernel
theorem dX8_guessOf_56 : decode cX8_guessOf 56 = .ok (.iload 9, 2) := by decide +kernel
theorem dX8_guessOf_58 : decode cX8_guessOf 58 = .ok (.iload 6, 2) := by decide +kernel
theorem dX8_guessOf_60 : decode cX8_guessOf 60 = .ok (.isub, 1) := by decide +kernel
theorem dX8_guessOf_61 : decode cX8_guessOf 61 = .ok (.imul, 1) := by decide +kernel
theorem dX8_guessOf_62 : decode cX8_guessOf 62 = .ok (.iadd, 1) := by decide +kernel
theorem dX8_guessOf_63 : decode cX8_guessOf 63 = .ok (.istore 7, 2) := by decide +kernel
theorem dX8_guessOf_65 : decode cX8_guessOf 65 = .ok (.iinc 8 1, 3) := by decide +kernel
theorem dX8_guessOf_68 : decode cX8_guessOf 68 = .ok (.iinc 9 1, 3) := by decide +kernel
theorem dX8_guessOf_71 : decode cX8_guessOf 71 = .ok (.goto (-43), 3) := by decide +kernel
theorem dX8_guessOf_74 : decode cX8_guessOf 74 = .ok (.iload 8, 2) := by decide +kernel
theorem dX8_guessOf_76 : decode cX8_guessOf 76 = .ok (.ifCond .le 25, 3) := by decide +kernel
theorem dX8_guessOf_79 : decode cX8_guessOf 79 = .ok (.iload 4, 2) := by decide +kernel
theorem dX8_guessOf_81 : decode cX8_guessOf 81 = .ok (.bipush (-9), 2) := by decide +kernel
theorem dX8_guessOf_83 : decode cX8_guessOf 83 = .ok (.if_icmp .eq 10, 3) := by decide +kernel
theorem dX8_guessOf_86 : decode cX8_guessOf 86 = .ok (.iload 7, 2) := by decide +kernel
theorem dX8_guessOf_88 : decode cX8_guessOf 88 = .ok (.iload 5, 2) := by decide +kernel
theorem dX8_guessOf_90 : decode cX8_guessOf 90 = .ok (.if_icmp .ge 11, 3) := by decide +kernel
theorem dX8_guessOf_93 : decode cX8_guessOf 93 = .ok (.iload 6, 2) := by decide +kernel
theorem dX8_guessOf_95 : decode cX8_guessOf 95 = .ok (.istore 4, 2) := by decide +kernel
theorem dX8_guessOf_97 : decode cX8_guessOf 97 = .ok (.iload 7, 2) := by decide +kernel
theorem dX8_guessOf_99 : decode cX8_guessOf 99 = .ok (.istore 5, 2) := by decide +kernel
theorem dX8_guessOf_101 : decode cX8_guessOf 101 = .ok (.iinc 6 1, 3) := by decide +kernel
theorem dX8_guessOf_104 : decode cX8_guessOf 104 = .ok (.goto (-94), 3) := by decide +kernel
theorem dX8_guessOf_107 : decode cX8_guessOf 107 = .ok (.iload 4, 2) := by decide +kernel
theorem dX8_guessOf_109 : decode cX8_guessOf 109 = .ok (.ireturn, 1) := by decide +kernel
theorem dX8_sideOf_0 : decode cX8_sideOf 0 = .ok (.iconst 0, 1) := by decide +kernel
theorem dX8_sideOf_1 : decode cX8_sideOf 1 = .ok (.istore_n 3, 1) := by decide +kernel
theorem dX8_sideOf_2 : decode cX8_sideOf 2 = .ok (.iconst 0, 1) := by decide +kernel
theorem dX8_sideOf_3 : decode cX8_sideOf 3 = .ok (.istore 4, 2) := by decide +kernel
theorem dX8_sideOf_5 : decode cX8_sideOf 5 = .ok (.iload 4, 2) := by decide +kernel
theorem dX8_sideOf_7 : decode cX8_sideOf 7 = .ok (.bipush 6, 2) := by decide +kernel
theorem dX8_sideOf_9 : decode cX8_sideOf 9 = .ok (.if_icmp .ge 68, 3) := by decide +kernel
theorem dX8_sideOf_12 : decode cX8_sideOf 12 = .ok (.aload_n 0, 1) := by decide +kernel
theorem dX8_sideOf_13 : decode cX8_sideOf 13 = .ok (.aload_n 1, 1) := by decide +kernel
theorem dX8_sideOf_14 : decode cX8_sideOf 14 = .ok (.iload_n 2, 1) := by decide +kernel
theorem dX8_sideOf_15 : decode cX8_sideOf 15 = .ok (.iload 4, 2) := by decide +kernel
theorem dX8_sideOf_17 : decode cX8_sideOf 17 = .ok (.invokevirtual 106, 3) := by decide +kernel
theorem dX8_sideOf_20 : decode cX8_sideOf 20 = .ok (.istore 5, 2) := by decide +kernel
theorem dX8_sideOf_22 : decode cX8_sideOf 22 = .ok (.iconst 0, 1) := by decide +kernel
theorem dX8_sideOf_23 : decode cX8_sideOf 23 = .ok (.istore 6, 2) := by decide +kernel
theorem dX8_sideOf_25 : decode cX8_sideOf 25 = .ok (.iload 6, 2) := by decide +kernel
theorem dX8_sideOf_27 : decode cX8_sideOf 27 = .ok (.aload_n 0, 1) := by decide +kernel
theorem dX8_sideOf_28 : decode cX8_sideOf 28 = .ok (.getfield 54, 3) := by decide +kernel
theorem dX8_sideOf_31 : decode cX8_sideOf 31 = .ok (.if_icmp .ge 40, 3) := by decide +kernel
theorem dX8_sideOf_34 : decode cX8_sideOf 34 = .ok (.iload_n 3, 1) := by decide +kernel
theorem dX8_sideOf_35 : decode cX8_sideOf 35 = .ok (.aload_n 1, 1) := by decide +kernel
theorem dX8_sideOf_36 : decode cX8_sideOf 36 = .ok (.iload 6, 2) := by decide +kernel
theorem dX8_sideOf_38 : decode cX8_sideOf 38 = .ok (.iaload, 1) := by decide +kernel
theorem dX8_sideOf_39 : decode cX8_sideOf 39 = .ok (.iload_n 2, 1) := by decide +kernel
theorem dX8_sideOf_40 : decode cX8_sideOf 40 = .ok (.invokestatic 102, 3) := by decide +kernel
theorem dX8_sideOf_43 : decode cX8_sideOf 43 = .ok (.iload 4, 2) := by decide +kernel
theorem dX8_sideOf_45 : decode cX8_sideOf 45 = .ok (.if_icmp .ne 17, 3) := by decide +kernel
theorem dX8_sideOf_48 : decode cX8_sideOf 48 = .ok (.iload 6, 2) := by decide +kernel
theorem dX8_sideOf_50 : decode cX8_sideOf 50 = .ok (.iload 5, 2) := by decide +kernel
theorem dX8_sideOf_52 : decode cX8_sideOf 52 = .ok (.isub, 1) := by decide +kernel
theorem dX8_sideOf_53 : decode cX8_sideOf 53 = .ok (.iload 6, 2) := by decide +kernel
theorem dX8_sideOf_55 : decode cX8_sideOf 55 = .ok (.iload 5, 2) := by decide +kernel
theorem dX8_sideOf_57 : decode cX8_sideOf 57 = .ok (.isub, 1) := by decide +kernel
theorem dX8_sideOf_58 : decode cX8_sideOf 58 = .ok (.imul, 1) := by decide +kernel
theorem dX8_sideOf_59 : decode cX8_sideOf 59 = .ok (.goto 4, 3) := by decide +kernel
theorem dX8_sideOf_62 : decode cX8_sideOf 62 = .ok (.iconst 0, 1) := by decide +kernel
theorem dX8_sideOf_63 : decode cX8_sideOf 63 = .ok (.iadd, 1) := by decide +kernel
theorem dX8_sideOf_64 : decode cX8_sideOf 64 = .ok (.istore_n 3, 1) := by decide +kernel
theorem dX8_sideOf_65 : decode cX8_sideOf 65 = .ok (.iinc 6 1, 3) := by decide +kernel
theorem dX8_sideOf_68 : decode cX8_sideOf 68 = .ok (.goto (-43), 3) := by decide +kernel
theorem dX8_sideOf_71 : decode cX8_sideOf 71 = .ok (.iinc 4 1, 3) := by decide +kernel
theorem dX8_sideOf_74 : decode cX8_sideOf 74 = .ok (.goto (-69), 3) := by decide +kernel
theorem dX8_sideOf_77 : decode cX8_sideOf 77 = .ok (.iload_n 3, 1) := by decide +kernel
theorem dX8_sideOf_78 : decode cX8_sideOf 78 = .ok (.ireturn, 1) := by decide +kernel
theorem dX8_sides_0 : decode cX8_sides 0 = .ok (.aload_n 0, 1) := by decide +kernel
theorem dX8_sides_1 : decode cX8_sides 1 = .ok (.aload_n 1, 1) := by decide +kernel
theorem dX8_sides_2 : decode cX8_sides 2 = .ok (.iconst 0, 1) := by decide +kernel
theorem dX8_sides_3 : decode cX8_sides 3 = .ok (.invokevirtual 110, 3) := by decide +kernel
theorem dX8_sides_6 : decode cX8_sides 6 = .ok (.aload_n 0, 1) := by decide +kernel
theorem dX8_sides_7 : decode cX8_sides 7 = .ok (.aload_n 1, 1) := by decide +kernel
theorem dX8_sides_8 : decode cX8_sides 8 = .ok (.iconst 1, 1) := by decide +kernel
theorem dX8_sides_9 : decode cX8_sides 9 = .ok (.invokevirtual 110, 3) := by decide +kernel
theorem dX8_sides_12 : decode cX8_sides 12 = .ok (.iadd, 1) := by decide +kernel
theorem dX8_sides_13 : decode cX8_sides 13 = .ok (.ireturn, 1) := by decide +kernel
theorem dX8_comes_0 : decode cX8_comes 0 = .ok (.aload_n 1, 1) := by decide +kernel
theorem dX8_comes_1 : decode cX8_comes 1 = .ok (.bipush 20, 2) := by decide +kernel
theorem dX8_comes_3 : decode cX8_comes 3 = .ok (.iconst 4, 1) := by decide +kernel
theorem dX8_comes_4 : decode cX8_comes 4 = .ok (.iload_n 2, 1) := by decide +kernel
theorem dX8_comes_5 : decode cX8_comes 5 = .ok (.imul, 1) := by decide +kernel
theorem dX8_comes_6 : decode cX8_comes 6 = .ok (.iadd, 1) := by decide +kernel
theorem dX8_comes_7 : decode cX8_comes 7 = .ok (.iload_n 3, 1) := by decide +kernel
theorem dX8_comes_8 : decode cX8_comes 8 = .ok (.iadd, 1) := by decide +kernel
theorem dX8_comes_9 : decode cX8_comes 9 = .ok (.iaload, 1) := by decide +kernel
theorem dX8_comes_10 : decode cX8_comes 10 = .ok (.istore 6, 2) := by decide +kernel
theorem dX8_comes_12 : decode cX8_comes 12 = .ok (.iload 4, 2) := by decide +kernel
theorem dX8_comes_14 : decode cX8_comes 14 = .ok (.ifCond .eq 8, 3) := by decide +kernel
theorem dX8_comes_17 : decode cX8_comes 17 = .ok (.iload 5, 2) := by decide +kernel
theorem dX8_comes_19 : decode cX8_comes 19 = .ok (.ifCond .ne 10, 3) := by decide +kernel
theorem dX8_comes_22 : decode cX8_comes 22 = .ok (.aload_n 0, 1) := by decide +kernel
theorem dX8_comes_23 : decode cX8_comes 23 = .ok (.getfield 54, 3) := by decide +kernel
theorem dX8_comes_26 : decode cX8_comes 26 = .ok (.ifCond .ne 17, 3) := by decide +kernel
theorem dX8_comes_29 : decode cX8_comes 29 = .ok (.aload_n 0, 1) := by decide +kernel
theorem dX8_comes_30 : decode cX8_comes 30 = .ok (.getfield 54, 3) := by decide +kernel
theorem dX8_comes_33 : decode cX8_comes 33 = .ok (.ifCond .ne 7, 3) := by decide +kernel
theorem dX8_comes_36 : decode cX8_comes 36 = .ok (.iconst 0, 1) := by decide +kernel
theorem dX8_comes_37 : decode cX8_comes 37 = .ok (.goto 5, 3) := by decide +kernel
theorem dX8_comes_40 : decode cX8_comes 40 = .ok (.iload 6, 2) := by decide +kernel
theorem dX8_comes_42 : decode cX8_comes 42 = .ok (.ireturn, 1) := by decide +kernel
theorem dX8_comes_43 : decode cX8_comes 43 = .ok (.iload 4, 2) := by decide +kernel
theorem dX8_comes_45 : decode cX8_comes 45 = .ok (.ifCond .eq 7, 3) := by decide +kernel
theorem dX8_comes_48 : decode cX8_comes 48 = .ok (.iconst 0, 1) := by decide +kernel
theorem dX8_comes_49 : decode cX8_comes 49 = .ok (.goto 4, 3) := by decide +kernel
theorem dX8_comes_52 : decode cX8_comes 52 = .ok (.iconst 1, 1) := by decide +kernel
theorem dX8_comes_53 : decode cX8_comes 53 = .ok (.istore 7, 2) := by decide +kernel
theorem dX8_comes_55 : decode cX8_comes 55 = .ok (.aload_n 0, 1) := by decide +kernel
theorem dX8_comes_56 : decode cX8_comes 56 = .ok (.aload_n 1, 1) := by decide +kernel
theorem dX8_comes_57 : decode cX8_comes 57 = .ok (.iload 7, 2) := by decide +kernel
theorem dX8_comes_59 : decode cX8_comes 59 = .ok (.aload_n 1, 1) := by decide +kernel
theorem dX8_comes_60 : decode cX8_comes 60 = .ok (.iload 6, 2) := by decide +kernel
theorem dX8_comes_62 : decode cX8_comes 62 = .ok (.iaload, 1) := by decide +kernel
theorem dX8_comes_63 : decode cX8_comes 63 = .ok (.iload 7, 2) := by decide +kernel
theorem dX8_comes_65 : decode cX8_comes 65 = .ok (.invokestatic 102, 3) := by decide +kernel
theorem dX8_comes_68 : decode cX8_comes 68 = .ok (.invokevirtual 106, 3) := by decide +kernel
theorem dX8_comes_71 : decode cX8_comes 71 = .ok (.ireturn, 1) := by decide +kernel
theorem dX8_fill_0 : decode cX8_fill 0 = .ok (.iload_n 1, 1) := by decide +kernel
theorem dX8_fill_1 : decode cX8_fill 1 = .ok (.iconst 1, 1) := by decide +kernel
theorem dX8_fill_2 : decode cX8_fill 2 = .ok (.isub, 1) := by decide +kernel
theorem dX8_fill_3 : decode cX8_fill 3 = .ok (.istore_n 2, 1) := by decide +kernel
theorem dX8_fill_4 : decode cX8_fill 4 = .ok (.iload_n 2, 1) := by decide +kernel
theorem dX8_fill_5 : decode cX8_fill 5 = .ok (.ifCond .lt 18, 3) := by decide +kernel
theorem dX8_fill_8 : decode cX8_fill 8 = .ok (.aload_n 0, 1) := by decide +kernel
theorem dX8_fill_9 : decode cX8_fill 9 = .ok (.getfield 38, 3) := by decide +kernel
theorem dX8_fill_12 : decode cX8_fill 12 = .ok (.iload_n 2, 1) := by decide +kernel
theorem dX8_fill_13 : decode cX8_fill 13 = .ok (.baload, 1) := by decide +kernel
theorem dX8_fill_14 : decode cX8_fill 14 = .ok (.ifCond .eq 9, 3) := by decide +kernel
theorem dX8_fill_17 : decode cX8_fill 17 = .ok (.iinc 2 (-1), 3) := by decide +kernel
theorem dX8_fill_20 : decode cX8_fill 20 = .ok (.goto (-16), 3) := by decide +kernel
theorem dX8_fill_23 : decode cX8_fill 23 = .ok (.iload_n 1, 1) := by decide +kernel
theorem dX8_fill_24 : decode cX8_fill 24 = .ok (.iconst 1, 1) := by decide +kernel
theorem dX8_fill_25 : decode cX8_fill 25 = .ok (.iadd, 1) := by decide +kernel
theorem dX8_fill_26 : decode cX8_fill 26 = .ok (.istore_n 3, 1) := by decide +kernel
theorem dX8_fill_27 : decode cX8_fill 27 = .ok (.iload_n 3, 1) := by decide +kernel
theorem dX8_fill_28 : decode cX8_fill 28 = .ok (.iconst 4, 1) := by decide +kernel
theorem dX8_fill_29 : decode cX8_fill 29 = .ok (.if_icmp .ge 18, 3) := by decide +kernel
theorem dX8_fill_32 : decode cX8_fill 32 = .ok (.aload_n 0, 1) := by decide +kernel
theorem dX8_fill_33 : decode cX8_fill 33 = .ok (.getfield 38, 3) := by decide +kernel
theorem dX8_fill_36 : decode cX8_fill 36 = .ok (.iload_n 3, 1) := by decide +kernel
theorem dX8_fill_37 : decode cX8_fill 37 = .ok (.baload, 1) := by decide +kernel
theorem dX8_fill_38 : decode cX8_fill 38 = .ok (.ifCond .eq 9, 3) := by decide +kernel
theorem dX8_fill_41 : decode cX8_fill 41 = .ok (.iinc 3 1, 3) := by decide +kernel
theorem dX8_fill_44 : decode cX8_fill 44 = .ok (.goto (-17), 3) := by decide +kernel
theorem dX8_fill_47 : decode cX8_fill 47 = .ok (.iconst 0, 1) := by decide +kernel
theorem dX8_fill_48 : decode cX8_fill 48 = .ok (.istore 4, 2) := by decide +kernel
theorem dX8_fill_50 : decode cX8_fill 50 = .ok (.iload 4, 2) := by decide +kernel
theorem dX8_fill_52 : decode cX8_fill 52 = .ok (.iconst 4, 1) := by decide +kernel
theorem dX8_fill_53 : decode cX8_fill 53 = .ok (.if_icmp .ge 87, 3) := by decide +kernel
theorem dX8_fill_56 : decode cX8_fill 56 = .ok (.iload_n 2, 1) := by decide +kernel
theorem dX8_fill_57 : decode cX8_fill 57 = .ok (.ifCond .lt 17, 3) := by decide +kernel
theorem dX8_fill_60 : decode cX8_fill 60 = .ok (.aload_n 0, 1) := by decide +kernel
theorem dX8_fill_61 : decode cX8_fill 61 = .ok (.getfield 35, 3) := by decide +kernel
theorem dX8_fill_64 : decode cX8_fill 64 = .ok (.iconst 4, 1) := by decide +kernel
theorem dX8_fill_65 : decode cX8_fill 65 = .ok (.iload_n 2, 1) := by decide +kernel
theorem dX8_fill_66 : decode cX8_fill 66 = .ok (.imul, 1) := by decide +kernel
theorem dX8_fill_67 : decode cX8_fill 67 = .ok (.iload 4, 2) := by decide +kernel
theorem dX8_fill_69 : decode cX8_fill 69 = .ok (.iadd, 1) := by decide +kernel
theorem dX8_fill_70 : decode cX8_fill 70 = .ok (.iaload, 1) := by decide +kernel
theorem dX8_fill_71 : decode cX8_fill 71 = .ok (.goto 4, 3) := by decide +kernel
theorem dX8_fill_74 : decode cX8_fill 74 = .ok (.iconst 0, 1) := by decide +kernel
theorem dX8_fill_75 : decode cX8_fill 75 = .ok (.istore 5, 2) := by decide +kernel
theorem dX8_fill_77 : decode cX8_fill 77 = .ok (.iload_n 3, 1) := by decide +kernel
theorem dX8_fill_78 : decode cX8_fill 78 = .ok (.iconst 4, 1) := by decide +kernel
theorem dX8_fill_79 : decode cX8_fill 79 = .ok (.if_icmp .ge 17, 3) := by decide +kernel
theorem dX8_fill_82 : decode cX8_fill 82 = .ok (.aload_n 0, 1) := by decide +kernel
theorem dX8_fill_83 : decode cX8_fill 83 = .ok (.getfield 35, 3) := by decide +kernel
theorem dX8_fill_86 : decode cX8_fill 86 = .ok (.iconst 4, 1) := by decide +kernel
theorem dX8_fill_87 : decode cX8_fill 87 = .ok (.iload_n 3, 1) := by decide +kernel
theorem dX8_fill_88 : decode cX8_fill 88 = .ok (.imul, 1) := by decide +kernel
theorem dX8_fill_89 : decode cX8_fill 89 = .ok (.iload 4, 2) := by decide +kernel
theorem dX8_fill_91 : decode cX8_fill 91 = .ok (.iadd, 1) := by decide +kernel
theorem dX8_fill_92 : decode cX8_fill 92 = .ok (.iaload, 1) := by decide +kernel
theorem dX8_fill_93 : decode cX8_fill 93 = .ok (.goto 4, 3) := by decide +kernel
theorem dX8_fill_96 : decode cX8_fill 96 = .ok (.iconst 0, 1) := by decide +kernel
theorem dX8_fill_97 : decode cX8_fill 97 = .ok (.istore 6, 2) := by decide +kernel
theorem dX8_fill_99 : decode cX8_fill 99 = .ok (.aload_n 0, 1) := by decide +kernel
theorem dX8_fill_100 : decode cX8_fill 100 = .ok (.getfield 35, 3) := by decide +kernel
theorem dX8_fill_103 : decode cX8_fill 103 = .ok (.iconst 4, 1) := by decide +kernel
theorem dX8_fill_104 : decode cX8_fill 104 = .ok (.iload_n 1, 1) := by decide +kernel
theorem dX8_fill_105 : decode cX8_fill 105 = .ok (.imul, 1) := by decide +kernel
theorem dX8_fill_106 : decode cX8_fill 106 = .ok (.iload 4, 2) := by decide +kernel
theorem dX8_fill_108 : decode cX8_fill 108 = .ok (.iadd, 1) := by decide +kernel
theorem dX8_fill_109 : decode cX8_fill 109 = .ok (.iload_n 2, 1) := by decide +kernel
theorem dX8_fill_110 : decode cX8_fill 110 = .ok (.ifCond .lt 18, 3) := by decide +kernel
theorem dX8_fill_113 : decode cX8_fill 113 = .ok (.iload_n 3, 1) := by decide +kernel
theorem dX8_fill_114 : decode cX8_fill 114 = .ok (.iconst 4, 1) := by decide +kernel
theorem dX8_fill_115 : decode cX8_fill 115 = .ok (.if_icmp .ge 13, 3) := by decide +kernel
theorem dX8_fill_118 : decode cX8_fill 118 = .ok (.iload 5, 2) := by decide +kernel
theorem dX8_fill_120 : decode cX8_fill 120 = .ok (.iload 6, 2) := by decide +kernel
theorem dX8_fill_122 : decode cX8_fill 122 = .ok (.iadd, 1) := by decide +kernel
theorem dX8_fill_123 : decode cX8_fill 123 = .ok (.iconst 2, 1) := by decide +kernel
theorem dX8_fill_124 : decode cX8_fill 124 = .ok (.idiv, 1) := by decide +kernel
theorem dX8_fill_125 : decode cX8_fill 125 = .ok (.goto 8, 3) := by decide +kernel
theorem dX8_fill_128 : decode cX8_fill 128 = .ok (.iload 5, 2) := by decide +kernel
theorem dX8_fill_130 : decode cX8_fill 130 = .ok (.iload 6, 2) := by decide +kernel
theorem dX8_fill_132 : decode cX8_fill 132 = .ok (.iadd, 1) := by decide +kernel
theorem dX8_fill_133 : decode cX8_fill 133 = .ok (.iastore, 1) := by decide +kernel
theorem dX8_fill_134 : decode cX8_fill 134 = .ok (.iinc 4 1, 3) := by decide +kernel
theorem dX8_fill_137 : decode cX8_fill 137 = .ok (.goto (-87), 3) := by decide +kernel
theorem dX8_fill_140 : decode cX8_fill 140 = .ok (.return_, 1) := by decide +kernel
theorem dX8_layOut_0 : decode cX8_layOut 0 = .ok (.iconst 0, 1) := by decide +kernel
theorem dX8_layOut_1 : decode cX8_layOut 1 = .ok (.istore_n 3, 1) := by decide +kernel
theorem dX8_layOut_2 : decode cX8_layOut 2 = .ok (.iload_n 3, 1) := by decide +kernel
theorem dX8_layOut_3 : decode cX8_layOut 3 = .ok (.iconst 4, 1) := by decide +kernel
theorem dX8_layOut_4 : decode cX8_layOut 4 = .ok (.if_icmp .ge 116, 3) := by decide +kernel
theorem dX8_layOut_7 : decode cX8_layOut 7 = .ok (.iload_n 2, 1) := by decide +kernel
theorem dX8_layOut_8 : decode cX8_layOut 8 = .ok (.iload_n 3, 1) := by decide +kernel
theorem dX8_layOut_9 : decode cX8_layOut 9 = .ok (.invokestatic 114, 3) := by decide +kernel
theorem dX8_layOut_12 : decode cX8_layOut 12 = .ok (.ifCond .ne 7, 3) := by decide +kernel
theorem dX8_layOut_15 : decode cX8_layOut 15 = .ok (.iconst 1, 1) := by decide +kernel
theorem dX8_layOut_16 : decode cX8_layOut 16 = .ok (.goto 4, 3) := by decide +kernel
theorem dX8_layOut_19 : decode cX8_layOut 19 = .ok (.iconst 0, 1) := by decide +kernel
theorem dX8_layOut_20 : decode cX8_layOut 20 = .ok (.istore 4, 2) := by decide +kernel
theorem dX8_layOut_22 : decode cX8_layOut 22 = .ok (.iload_n 2, 1) := by decide +kernel
theorem dX8_layOut_23 : decode cX8_layOut 23 = .ok (.iload_n 3, 1) := by decide +kernel
theorem dX8_layOut_24 : decode cX8_layOut 24 = .ok (.iconst 4, 1) := by decide +kernel
theorem dX8_layOut_25 : decode cX8_layOut 25 = .ok (.iadd, 1) := by decide +kernel
theorem dX8_layOut_26 : decode cX8_layOut 26 = .ok (.aload_n 1, 1) := by decide +kernel
theorem dX8_layOut_27 : decode cX8_layOut 27 = .ok (.bipush 36, 2) := by decide +kernel
theorem dX8_layOut_29 : decode cX8_layOut 29 = .ok (.iaload, 1) := by decide +kernel
theorem dX8_layOut_30 : decode cX8_layOut 30 = .ok (.isub, 1) := by decide +kernel
theorem dX8_layOut_31 : decode cX8_layOut 31 = .ok (.iconst 4, 1) := by decide +kernel
theorem dX8_layOut_32 : decode cX8_layOut 32 = .ok (.irem, 1) := by decide +kernel
theorem dX8_layOut_33 : decode cX8_layOut 33 = .ok (.invokestatic 114, 3) := by decide +kernel
theorem dX8_layOut_36 : decode cX8_layOut 36 = .ok (.ifCond .ne 7, 3) := by decide +kernel
theorem dX8_layOut_39 : decode cX8_layOut 39 = .ok (.iconst 1, 1) := by decide +kernel
theorem dX8_layOut_40 : decode cX8_layOut 40 = .ok (.goto 4, 3) := by decide +kernel
theorem dX8_layOut_43 : decode cX8_layOut 43 = .ok (.iconst 0, 1) := by decide +kernel
theorem dX8_layOut_44 : decode cX8_layOut 44 = .ok (.istore 5, 2) := by decide +kernel
theorem dX8_layOut_46 : decode cX8_layOut 46 = .ok (.aload_n 0, 1) := by decide +kernel
theorem dX8_layOut_47 : decode cX8_layOut 47 = .ok (.getfield 38, 3) := by decide +kernel
theorem dX8_layOut_50 : decode cX8_layOut 50 = .ok (.iload_n 3, 1) := by decide +kernel
theorem dX8_layOut_51 : decode cX8_layOut 51 = .ok (.iload 4, 2) := by decide +kernel
theorem dX8_layOut_53 : decode cX8_layOut 53 = .ok (.ifCond .ne 12, 3) := by decide +kernel
theorem dX8_layOut_56 : decode cX8_layOut 56 = .ok (.iload 5, 2) := by decide +kernel
theorem dX8_layOut_58 : decode cX8_layOut 58 = .ok (.ifCond .ne 7, 3) := by decide +kernel
theorem dX8_layOut_61 : decode cX8_layOut 61 = .ok (.iconst 1, 1) := by decide +kernel
theorem dX8_layOut_62 : decode cX8_layOut 62 = .ok (.goto 4, 3) := by decide +kernel
theorem dX8_layOut_65 : decode cX8_layOut 65 = .ok (.iconst 0, 1) := by decide +kernel
theorem dX8_layOut_66 : decode cX8_layOut 66 = .ok (.bastore, 1) := by decide +kernel
theorem dX8_layOut_67 : decode cX8_layOut 67 = .ok (.iconst 0, 1) := by decide +kernel
theorem dX8_layOut_68 : decode cX8_layOut 68 = .ok (.istore 6, 2) := by decide +kernel
theorem dX8_layOut_70 : decode cX8_layOut 70 = .ok (.iload 6, 2) := by decide +kernel
theorem dX8_layOut_72 : decode cX8_layOut 72 = .ok (.iconst 4, 1) := by decide +kernel
theorem dX8_layOut_73 : decode cX8_layOut 73 = .ok (.if_icmp .ge 41, 3) := by decide +kernel
theorem dX8_layOut_76 : decode cX8_layOut 76 = .ok (.aload_n 0, 1) := by decide +kernel
theorem dX8_layOut_77 : decode cX8_layOut 77 = .ok (.getfield 38, 3) := by decide +kernel
theorem dX8_layOut_80 : decode cX8_layOut 80 = .ok (.iload_n 3, 1) := by decide +kernel
theorem dX8_layOut_81 : decode cX8_layOut 81 = .ok (.baload, 1) := by decide +kernel
theorem dX8_layOut_82 : decode cX8_layOut 82 = .ok (.ifCond .ne 32, 3) := by decide +kernel
theorem dX8_layOut_85 : decode cX8_layOut 85 = .ok (.aload_n 0, 1) := by decide +kernel
theorem dX8_layOut_86 : decode cX8_layOut 86 = .ok (.getfield 35, 3) := by decide +kernel
theorem dX8_layOut_89 : decode cX8_layOut 89 = .ok (.iconst 4, 1) := by decide +kernel
theorem dX8_layOut_90 : decode cX8_layOut 90 = .ok (.iload_n 3, 1) := by decide +kernel
theorem dX8_layOut_91 : decode cX8_layOut 91 = .ok (.imul, 1) := by decide +kernel
theorem dX8_layOut_92 : decode cX8_layOut 92 = .ok (.iload 6, 2) := by decide +kernel
theorem dX8_layOut_94 : decode cX8_layOut 94 = .ok (.iadd, 1) := by decide +kernel
theorem dX8_layOut_95 : decode cX8_layOut 95 = .ok (.aload_n 0, 1) := by decide +kernel
theorem dX8_layOut_96 : decode cX8_layOut 96 = .ok (.aload_n 1, 1) := by decide +kernel
theorem dX8_layOut_97 : decode cX8_layOut 97 = .ok (.iload_n 3, 1) := by decide +kernel
theorem dX8_layOut_98 : decode cX8_layOut 98 = .ok (.iload 6, 2) := by decide +kernel
theorem dX8_layOut_100 : decode cX8_layOut 100 = .ok (.iload 4, 2) := by decide +kernel
theorem dX8_layOut_102 : decode cX8_layOut 102 = .ok (.iload 5, 2) := by decide +kernel
theorem dX8_layOut_104 : decode cX8_layOut 104 = .ok (.invokevirtual 118, 3) := by decide +kernel
theorem dX8_layOut_107 : decode cX8_layOut 107 = .ok (.iastore, 1) := by decide +kernel
theorem dX8_layOut_108 : decode cX8_layOut 108 = .ok (.iinc 6 1, 3) := by decide +kernel
theorem dX8_layOut_111 : decode cX8_layOut 111 = .ok (.goto (-41), 3) := by decide +kernel
theorem dX8_layOut_114 : decode cX8_layOut 114 = .ok (.iinc 3 1, 3) := by decide +kernel
theorem dX8_layOut_117 : decode cX8_layOut 117 = .ok (.goto (-115), 3) := by decide +kernel
theorem dX8_layOut_120 : decode cX8_layOut 120 = .ok (.iconst 0, 1) := by decide +kernel
theorem dX8_layOut_121 : decode cX8_layOut 121 = .ok (.istore_n 3, 1) := by decide +kernel
theorem dX8_layOut_122 : decode cX8_layOut 122 = .ok (.iload_n 3, 1) := by decide +kernel
theorem dX8_layOut_123 : decode cX8_layOut 123 = .ok (.iconst 4, 1) := by decide +kernel
theorem dX8_layOut_124 : decode cX8_layOut 124 = .ok (.if_icmp .ge 23, 3) := by decide +kernel
theorem dX8_layOut_127 : decode cX8_layOut 127 = .ok (.aload_n 0, 1) := by decide +kernel
theorem dX8_layOut_128 : decode cX8_layOut 128 = .ok (.getfield 38, 3) := by decide +kernel
theorem dX8_layOut_131 : decode cX8_layOut 131 = .ok (.iload_n 3, 1) := by decide +kernel
theorem dX8_layOut_132 : decode cX8_layOut 132 = .ok (.baload, 1) := by decide +kernel
theorem dX8_layOut_133 : decode cX8_layOut 133 = .ok (.ifCond .eq 8, 3) := by decide +kernel
theorem dX8_layOut_136 : decode cX8_layOut 136 = .ok (.aload_n 0, 1) := by decide +kernel
theorem dX8_layOut_137 : decode cX8_layOut 137 = .ok (.iload_n 3, 1) := by decide +kernel
theorem dX8_layOut_138 : decode cX8_layOut 138 = .ok (.invokevirtual 122, 3) := by decide +kernel
theorem dX8_layOut_141 : decode cX8_layOut 141 = .ok (.iinc 3 1, 3) := by decide +kernel
theorem dX8_layOut_144 : decode cX8_layOut 144 = .ok (.goto (-22), 3) := by decide +kernel
theorem dX8_layOut_147 : decode cX8_layOut 147 = .ok (.return_, 1) := by decide +kernel
theorem dX8_missBy_0 : decode cX8_missBy 0 = .ok (.aload_n 0, 1) := by decide +kernel
theorem dX8_missBy_1 : decode cX8_missBy 1 = .ok (.aload_n 1, 1) := by decide +kernel
theorem dX8_missBy_2 : decode cX8_missBy 2 = .ok (.iload_n 2, 1) := by decide +kernel
theorem dX8_missBy_3 : decode cX8_missBy 3 = .ok (.invokevirtual 126, 3) := by decide +kernel
theorem dX8_missBy_6 : decode cX8_missBy 6 = .ok (.iconst 0, 1) := by decide +kernel
theorem dX8_missBy_7 : decode cX8_missBy 7 = .ok (.istore_n 3, 1) := by decide +kernel
theorem dX8_missBy_8 : decode cX8_missBy 8 = .ok (.iconst 0, 1) := by decide +kernel
theorem dX8_missBy_9 : decode cX8_missBy 9 = .ok (.istore 4, 2) := by decide +kernel
theorem dX8_missBy_11 : decode cX8_missBy 11 = .ok (.iload 4, 2) := by decide +kernel
theorem dX8_missBy_13 : decode cX8_missBy 13 = .ok (.bipush 16, 2) := by decide +kernel
theorem dX8_missBy_15 : decode cX8_missBy 15 = .ok (.if_icmp .ge 34, 3) := by decide +kernel
theorem dX8_missBy_18 : decode cX8_missBy 18 = .ok (.aload_n 0, 1) := by decide +kernel
theorem dX8_missBy_19 : decode cX8_missBy 19 = .ok (.getfield 35, 3) := by decide +kernel
theorem dX8_missBy_22 : decode cX8_missBy 22 = .ok (.iload 4, 2) := by decide +kernel
theorem dX8_missBy_24 : decode cX8_missBy 24 = .ok (.iaload, 1) := by decide +kernel
theorem dX8_missBy_25 : decode cX8_missBy 25 = .ok (.aload_n 1, 1) := by decide +kernel
theorem dX8_missBy_26 : decode cX8_missBy 26 = .ok (.bipush 20, 2) := by decide +kernel
theorem dX8_missBy_28 : decode cX8_missBy 28 = .ok (.iload 4, 2) := by decide +kernel
theorem dX8_missBy_30 : decode cX8_missBy 30 = .ok (.iadd, 1) := by decide +kernel
theorem dX8_missBy_31 : decode cX8_missBy 31 = .ok (.iaload, 1) := by decide +kernel
theorem dX8_missBy_32 : decode cX8_missBy 32 = .ok (.isub, 1) := by decide +kernel
theorem dX8_missBy_33 : decode cX8_missBy 33 = .ok (.istore 5, 2) := by decide +kernel
theorem dX8_missBy_35 : decode cX8_missBy 35 = .ok (.iload_n 3, 1) := by decide +kernel
theorem dX8_missBy_36 : decode cX8_missBy 36 = .ok (.iload 5, 2) := by decide +kernel
theorem dX8_missBy_38 : decode cX8_missBy 38 = .ok (.iload 5, 2) := by decide +kernel
theorem dX8_missBy_40 : decode cX8_missBy 40 = .ok (.imul, 1) := by decide +kernel
theorem dX8_missBy_41 : decode cX8_missBy 41 = .ok (.iadd, 1) := by decide +kernel
theorem dX8_missBy_42 : decode cX8_missBy 42 = .ok (.istore_n 3, 1) := by decide +kernel
theorem dX8_missBy_43 : decode cX8_missBy 43 = .ok (.iinc 4 1, 3) := by decide +kernel
theorem dX8_missBy_46 : decode cX8_missBy 46 = .ok (.goto (-35), 3) := by decide +kernel
theorem dX8_missBy_49 : decode cX8_missBy 49 = .ok (.iload_n 3, 1) := by decide +kernel
theorem dX8_missBy_50 : decode cX8_missBy 50 = .ok (.ireturn, 1) := by decide +kernel
theorem dX8_blanks_0 : decode cX8_blanks 0 = .ok (.aload_n 0, 1) := by decide +kernel
theorem dX8_blanks_1 : decode cX8_blanks 1 = .ok (.aload_n 0, 1) := by decide +kernel
theorem dX8_blanks_2 : decode cX8_blanks 2 = .ok (.getfield 13, 3) := by decide +kernel
theorem dX8_blanks_5 : decode cX8_blanks 5 = .ok (.aload_n 0, 1) := by decide +kernel
theorem dX8_blanks_6 : decode cX8_blanks 6 = .ok (.getfield 13, 3) := by decide +kernel
theorem dX8_blanks_9 : decode cX8_blanks 9 = .ok (.bipush 37, 2) := by decide +kernel
theorem dX8_blanks_11 : decode cX8_blanks 11 = .ok (.iaload, 1) := by decide +kernel
theorem dX8_blanks_12 : decode cX8_blanks 12 = .ok (.invokevirtual 126, 3) := by decide +kernel
theorem dX8_blanks_15 : decode cX8_blanks 15 = .ok (.iconst 0, 1) := by decide +kernel
theorem dX8_blanks_16 : decode cX8_blanks 16 = .ok (.istore_n 1, 1) := by decide +kernel
theorem dX8_blanks_17 : decode cX8_blanks 17 = .ok (.iconst 0, 1) := by decide +kernel
theorem dX8_blanks_18 : decode cX8_blanks 18 = .ok (.istore_n 2, 1) := by decide +kernel
theorem dX8_blanks_19 : decode cX8_blanks 19 = .ok (.iload_n 2, 1) := by decide +kernel
theorem dX8_blanks_20 : decode cX8_blanks 20 = .ok (.iconst 4, 1) := by decide +kernel
theorem dX8_blanks_21 : decode cX8_blanks 21 = .ok (.if_icmp .ge 28, 3) := by decide +kernel
theorem dX8_blanks_24 : decode cX8_blanks 24 = .ok (.iload_n 1, 1) := by decide +kernel
theorem dX8_blanks_25 : decode cX8_blanks 25 = .ok (.aload_n 0, 1) := by decide +kernel
theorem dX8_blanks_26 : decode cX8_blanks 26 = .ok (.getfield 38, 3) := by decide +kernel
theorem dX8_blanks_29 : decode cX8_blanks 29 = .ok (.iload_n 2, 1) := by decide +kernel
theorem dX8_blanks_30 : decode cX8_blanks 30 = .ok (.baload, 1) := by decide +kernel
theorem dX8_blanks_31 : decode cX8_blanks 31 = .ok (.ifCond .eq 9, 3) := by decide +kernel
theorem dX8_blanks_34 : decode cX8_blanks 34 = .ok (.iconst 1, 1) := by decide +kernel
theorem dX8_blanks_35 : decode cX8_blanks 35 = .ok (.iload_n 2, 1) := by decide +kernel
theorem dX8_blanks_36 : decode cX8_blanks 36 = .ok (.ishl, 1) := by decide +kernel
theorem dX8_blanks_37 : decode cX8_blanks 37 = .ok (.goto 4, 3) := by decide +kernel
theorem dX8_blanks_40 : decode cX8_blanks 40 = .ok (.iconst 0, 1) := by decide +kernel
theorem dX8_blanks_41 : decode cX8_blanks 41 = .ok (.ior, 1) := by decide +kernel
theorem dX8_blanks_42 : decode cX8_blanks 42 = .ok (.istore_n 1, 1) := by decide +kernel
theorem dX8_blanks_43 : decode cX8_blanks 43 = .ok (.iinc 2 1, 3) := by decide +kernel
theorem dX8_blanks_46 : decode cX8_blanks 46 = .ok (.goto (-27), 3) := by decide +kernel
theorem dX8_blanks_49 : decode cX8_blanks 49 = .ok (.iload_n 1, 1) := by decide +kernel
theorem dX8_blanks_50 : decode cX8_blanks 50 = .ok (.ireturn, 1) := by decide +kernel
theorem dX8_changeOn_0 : decode cX8_changeOn 0 = .ok (.aload_n 0, 1) := by decide +kernel
theorem dX8_changeOn_1 : decode cX8_changeOn 1 = .ok (.iload_n 1, 1) := by decide +kernel
theorem dX8_changeOn_2 : decode cX8_changeOn 2 = .ok (.iaload, 1) := by decide +kernel
theorem dX8_changeOn_3 : decode cX8_changeOn 3 = .ok (.istore_n 3, 1) := by decide +kernel
theorem dX8_changeOn_4 : decode cX8_changeOn 4 = .ok (.aload_n 0, 1) := by decide +kernel
theorem dX8_changeOn_5 : decode cX8_changeOn 5 = .ok (.iload_n 1, 1) := by decide +kernel
theorem dX8_changeOn_6 : decode cX8_changeOn 6 = .ok (.aload_n 0, 1) := by decide +kernel
theorem dX8_changeOn_7 : decode cX8_changeOn 7 = .ok (.iload_n 2, 1) := by decide +kernel
theorem dX8_changeOn_8 : decode cX8_changeOn 8 = .ok (.iaload, 1) := by decide +kernel
theorem dX8_changeOn_9 : decode cX8_changeOn 9 = .ok (.iastore, 1) := by decide +kernel
theorem dX8_changeOn_10 : decode cX8_changeOn 10 = .ok (.aload_n 0, 1) := by decide +kernel
theorem dX8_changeOn_11 : decode cX8_changeOn 11 = .ok (.iload_n 2, 1) := by decide +kernel
theorem dX8_changeOn_12 : decode cX8_changeOn 12 = .ok (.iload_n 3, 1) := by decide +kernel
theorem dX8_changeOn_13 : decode cX8_changeOn 13 = .ok (.iastore, 1) := by decide +kernel
theorem dX8_changeOn_14 : decode cX8_changeOn 14 = .ok (.return_, 1) := by decide +kernel
theorem dX8_bestChange_0 : decode cX8_bestChange 0 = .ok (.bipush (-9), 2) := by decide +kernel
theorem dX8_bestChange_2 : decode cX8_bestChange 2 = .ok (.istore_n 1, 1) := by decide +kernel
theorem dX8_bestChange_3 : decode cX8_bestChange 3 = .ok (.aload_n 0, 1) := by decide +kernel
theorem dX8_bestChange_4 : decode cX8_bestChange 4 = .ok (.aload_n 0, 1) := by decide +kernel
theorem dX8_bestChange_5 : decode cX8_bestChange 5 = .ok (.getfield 13, 3) := by decide +kernel
theorem dX8_bestChange_8 : decode cX8_bestChange 8 = .ok (.invokevirtual 130, 3) := by decide +kernel
theorem dX8_bestChange_11 : decode cX8_bestChange 11 = .ok (.istore_n 2, 1) := by decide +kernel
theorem dX8_bestChange_12 : decode cX8_bestChange 12 = .ok (.aload_n 0, 1) := by decide +kernel
theorem dX8_bestChange_13 : decode cX8_bestChange 13 = .ok (.getfield 13, 3) := by decide +kernel
theorem dX8_bestChange_16 : decode cX8_bestChange 16 = .ok (.aload_n 0, 1) := by decide +kernel
theorem dX8_bestChange_17 : decode cX8_bestChange 17 = .ok (.getfield 16, 3) := by decide +kernel
theorem dX8_bestChange_20 : decode cX8_bestChange 20 = .ok (.invokestatic 134, 3) := by decide +kernel
theorem dX8_bestChange_23 : decode cX8_bestChange 23 = .ok (.iconst 0, 1) := by decide +kernel
theorem dX8_bestChange_24 : decode cX8_bestChange 24 = .ok (.istore_n 3, 1) := by decide +kernel
theorem dX8_bestChange_25 : decode cX8_bestChange 25 = .ok (.iload_n 3, 1) := by decide +kernel
theorem dX8_bestChange_26 : decode cX8_bestChange 26 = .ok (.aload_n 0, 1) := by decide +kernel
theorem dX8_bestChange_27 : decode cX8_bestChange 27 = .ok (.getfield 54, 3) := by decide +kernel
theorem dX8_bestChange_30 : decode cX8_bestChange 30 = .ok (.if_icmp .ge 76, 3) := by decide +kernel
theorem dX8_bestChange_33 : decode cX8_bestChange 33 = .ok (.iload_n 3, 1) := by decide +kernel
theorem dX8_bestChange_34 : decode cX8_bestChange 34 = .ok (.iconst 1, 1) := by decide +kernel
theorem dX8_bestChange_35 : decode cX8_bestChange 35 = .ok (.iadd, 1) := by decide +kernel
theorem dX8_bestChange_36 : decode cX8_bestChange 36 = .ok (.istore 4, 2) := by decide +kernel
theorem dX8_bestChange_38 : decode cX8_bestChange 38 = .ok (.iload 4, 2) := by decide +kernel
theorem dX8_bestChange_40 : decode cX8_bestChange 40 = .ok (.aload_n 0, 1) := by decide +kernel
theorem dX8_bestChange_41 : decode cX8_bestChange 41 = .ok (.getfield 54, 3) := by decide +kernel
theorem dX8_bestChange_44 : decode cX8_bestChange 44 = .ok (.if_icmp .ge 56, 3) := by decide +kernel
theorem dX8_bestChange_47 : decode cX8_bestChange 47 = .ok (.aload_n 0, 1) := by decide +kernel
theorem dX8_bestChange_48 : decode cX8_bestChange 48 = .ok (.getfield 16, 3) := by decide +kernel
theorem dX8_bestChange_51 : decode cX8_bestChange 51 = .ok (.iload_n 3, 1) := by decide +kernel
theorem dX8_bestChange_52 : decode cX8_bestChange 52 = .ok (.iload 4, 2) := by decide +kernel
theorem dX8_bestChange_54 : decode cX8_bestChange 54 = .ok (.invokestatic 138, 3) := by decide +kernel
theorem dX8_bestChange_57 : decode cX8_bestChange 57 = .ok (.aload_n 0, 1) := by decide +kernel
theorem dX8_bestChange_58 : decode cX8_bestChange 58 = .ok (.aload_n 0, 1) := by decide +kernel
theorem dX8_bestChange_59 : decode cX8_bestChange 59 = .ok (.getfield 16, 3) := by decide +kernel
theorem dX8_bestChange_62 : decode cX8_bestChange 62 = .ok (.invokevirtual 130, 3) := by decide +kernel
theorem dX8_bestChange_65 : decode cX8_bestChange 65 = .ok (.istore 5, 2) := by decide +kernel
theorem dX8_bestChange_67 : decode cX8_bestChange 67 = .ok (.iload 5, 2) := by decide +kernel
theorem dX8_bestChange_69 : decode cX8_bestChange 69 = .ok (.iload_n 2, 1) := by decide +kernel
theorem dX8_bestChange_70 : decode cX8_bestChange 70 = .ok (.if_icmp .ge 14, 3) := by decide +kernel
theorem dX8_bestChange_73 : decode cX8_bestChange 73 = .ok (.bipush 100, 2) := by decide +kernel
theorem dX8_bestChange_75 : decode cX8_bestChange 75 = .ok (.iload_n 3, 1) := by decide +kernel
theorem dX8_bestChange_76 : decode cX8_bestChange 76 = .ok (.imul, 1) := by decide +kernel
theorem dX8_bestChange_77 : decode cX8_bestChange 77 = .ok (.iload 4, 2) := by decide +kernel
theorem dX8_bestChange_79 : decode cX8_bestChange 79 = .ok (.iadd, 1) := by decide +kernel
theorem dX8_bestChange_80 : decode cX8_bestChange 80 = .ok (.istore_n 1, 1) := by decide +kernel
theorem dX8_bestChange_81 : decode cX8_bestChange 81 = .ok (.iload 5, 2) := by decide +kernel
theorem dX8_bestChange_83 : decode cX8_bestChange 83 = .ok (.istore_n 2, 1) := by decide +kernel
theorem dX8_bestChange_84 : decode cX8_bestChange 84 = .ok (.aload_n 0, 1) := by decide +kernel
theorem dX8_bestChange_85 : decode cX8_bestChange 85 = .ok (.getfield 16, 3) := by decide +kernel
theorem dX8_bestChange_88 : decode cX8_bestChange 88 = .ok (.iload_n 3, 1) := by decide +kernel
theorem dX8_bestChange_89 : decode cX8_bestChange 89 = .ok (.iload 4, 2) := by decide +kernel
theorem dX8_bestChange_91 : decode cX8_bestChange 91 = .ok (.invokestatic 138, 3) := by decide +kernel
theorem dX8_bestChange_94 : decode cX8_bestChange 94 = .ok (.iinc 4 1, 3) := by decide +kernel
theorem dX8_bestChange_97 : decode cX8_bestChange 97 = .ok (.goto (-59), 3) := by decide +kernel
theorem dX8_bestChange_100 : decode cX8_bestChange 100 = .ok (.iinc 3 1, 3) := by decide +kernel
theorem dX8_bestChange_103 : decode cX8_bestChange 103 = .ok (.goto (-78), 3) := by decide +kernel
theorem dX8_bestChange_106 : decode cX8_bestChange 106 = .ok (.iload_n 1, 1) := by decide +kernel
theorem dX8_bestChange_107 : decode cX8_bestChange 107 = .ok (.ireturn, 1) := by decide +kernel
theorem dX8_bestShift_0 : decode cX8_bestShift 0 = .ok (.iconst 0, 1) := by decide +kernel
theorem dX8_bestShift_1 : decode cX8_bestShift 1 = .ok (.istore_n 1, 1) := by decide +kernel
theorem dX8_bestShift_2 : decode cX8_bestShift 2 = .ok (.iconst 0, 1) := by decide +kernel
theorem dX8_bestShift_3 : decode cX8_bestShift 3 = .ok (.istore_n 2, 1) := by decide +kernel
theorem dX8_bestShift_4 : decode cX8_bestShift 4 = .ok (.aload_n 0, 1) := by decide +kernel
theorem dX8_bestShift_5 : decode cX8_bestShift 5 = .ok (.getfield 13, 3) := by decide +kernel
theorem dX8_bestShift_8 : decode cX8_bestShift 8 = .ok (.aload_n 0, 1) := by decide +kernel
theorem dX8_bestShift_9 : decode cX8_bestShift 9 = .ok (.getfield 16, 3) := by decide +kernel
theorem dX8_bestShift_12 : decode cX8_bestShift 12 = .ok (.invokestatic 134, 3) := by decide +kernel
theorem dX8_bestShift_15 : decode cX8_bestShift 15 = .ok (.iconst 0, 1) := by decide +kernel
theorem dX8_bestShift_16 : decode cX8_bestShift 16 = .ok (.istore_n 3, 1) := by decide +kernel
theorem dX8_bestShift_17 : decode cX8_bestShift 17 = .ok (.iload_n 3, 1) := by decide +kernel
theorem dX8_bestShift_18 : decode cX8_bestShift 18 = .ok (.iconst 4, 1) := by decide +kernel
theorem dX8_bestShift_19 : decode cX8_bestShift 19 = .ok (.if_icmp .ge 80, 3) := by decide +kernel
theorem dX8_bestShift_22 : decode cX8_bestShift 22 = .ok (.aload_n 0, 1) := by decide +kernel
theorem dX8_bestShift_23 : decode cX8_bestShift 23 = .ok (.getfield 16, 3) := by decide +kernel
theorem dX8_bestShift_26 : decode cX8_bestShift 26 = .ok (.bipush 36, 2) := by decide +kernel
theorem dX8_bestShift_28 : decode cX8_bestShift 28 = .ok (.iload_n 3, 1) := by decide +kernel
theorem dX8_bestShift_29 : decode cX8_bestShift 29 = .ok (.iastore, 1) := by decide +kernel
theorem dX8_bestShift_30 : decode cX8_bestShift 30 = .ok (.iconst 0, 1) := by decide +kernel
theorem dX8_bestShift_31 : decode cX8_bestShift 31 = .ok (.istore 4, 2) := by decide +kernel
theorem dX8_bestShift_33 : decode cX8_bestShift 33 = .ok (.iconst 0, 1) := by decide +kernel
theorem dX8_bestShift_34 : decode cX8_bestShift 34 = .ok (.istore 5, 2) := by decide +kernel
theorem dX8_bestShift_36 : decode cX8_bestShift 36 = .ok (.iload 5, 2) := by decide +kernel
theorem dX8_bestShift_38 : decode cX8_bestShift 38 = .ok (.iconst 4, 1) := by decide +kernel
theorem dX8_bestShift_39 : decode cX8_bestShift 39 = .ok (.if_icmp .ge 39, 3) := by decide +kernel
theorem dX8_bestShift_42 : decode cX8_bestShift 42 = .ok (.aload_n 0, 1) := by decide +kernel
theorem dX8_bestShift_43 : decode cX8_bestShift 43 = .ok (.aload_n 0, 1) := by decide +kernel
theorem dX8_bestShift_44 : decode cX8_bestShift 44 = .ok (.getfield 16, 3) := by decide +kernel
theorem dX8_bestShift_47 : decode cX8_bestShift 47 = .ok (.iconst 1, 1) := by decide +kernel
theorem dX8_bestShift_48 : decode cX8_bestShift 48 = .ok (.iload 5, 2) := by decide +kernel
theorem dX8_bestShift_50 : decode cX8_bestShift 50 = .ok (.ishl, 1) := by decide +kernel
theorem dX8_bestShift_51 : decode cX8_bestShift 51 = .ok (.invokevirtual 142, 3) := by decide +kernel
theorem dX8_bestShift_54 : decode cX8_bestShift 54 = .ok (.istore 6, 2) := by decide +kernel
theorem dX8_bestShift_56 : decode cX8_bestShift 56 = .ok (.iload 6, 2) := by decide +kernel
theorem dX8_bestShift_58 : decode cX8_bestShift 58 = .ok (.iload 4, 2) := by decide +kernel
theorem dX8_bestShift_60 : decode cX8_bestShift 60 = .ok (.if_icmp .le 8, 3) := by decide +kernel
theorem dX8_bestShift_63 : decode cX8_bestShift 63 = .ok (.iload 6, 2) := by decide +kernel
theorem dX8_bestShift_65 : decode cX8_bestShift 65 = .ok (.goto 5, 3) := by decide +kernel
theorem dX8_bestShift_68 : decode cX8_bestShift 68 = .ok (.iload 4, 2) := by decide +kernel
theorem dX8_bestShift_70 : decode cX8_bestShift 70 = .ok (.istore 4, 2) := by decide +kernel
theorem dX8_bestShift_72 : decode cX8_bestShift 72 = .ok (.iinc 5 1, 3) := by decide +kernel
theorem dX8_bestShift_75 : decode cX8_bestShift 75 = .ok (.goto (-39), 3) := by decide +kernel
theorem dX8_bestShift_78 : decode cX8_bestShift 78 = .ok (.iload_n 3, 1) := by decide +kernel
theorem dX8_bestShift_79 : decode cX8_bestShift 79 = .ok (.ifCond .eq 9, 3) := by decide +kernel
theorem dX8_bestShift_82 : decode cX8_bestShift 82 = .ok (.iload 4, 2) := by decide +kernel
theorem dX8_bestShift_84 : decode cX8_bestShift 84 = .ok (.iload_n 2, 1) := by decide +kernel
theorem dX8_bestShift_85 : decode cX8_bestShift 85 = .ok (.if_icmp .ge 8, 3) := by decide +kernel
theorem dX8_bestShift_88 : decode cX8_bestShift 88 = .ok (.iload_n 3, 1) := by decide +kernel
theorem dX8_bestShift_89 : decode cX8_bestShift 89 = .ok (.istore_n 1, 1) := by decide +kernel
theorem dX8_bestShift_90 : decode cX8_bestShift 90 = .ok (.iload 4, 2) := by decide +kernel
theorem dX8_bestShift_92 : decode cX8_bestShift 92 = .ok (.istore_n 2, 1) := by decide +kernel
theorem dX8_bestShift_93 : decode cX8_bestShift 93 = .ok (.iinc 3 1, 3) := by decide +kernel
theorem dX8_bestShift_96 : decode cX8_bestShift 96 = .ok (.goto (-79), 3) := by decide +kernel
theorem dX8_bestShift_99 : decode cX8_bestShift 99 = .ok (.iload_n 1, 1) := by decide +kernel
theorem dX8_bestShift_100 : decode cX8_bestShift 100 = .ok (.ireturn, 1) := by decide +kernel
theorem dX8_layOn_0 : decode cX8_layOn 0 = .ok (.iconst 0, 1) := by decide +kernel
theorem dX8_layOn_1 : decode cX8_layOn 1 = .ok (.istore_n 3, 1) := by decide +kernel
theorem dX8_layOn_2 : decode cX8_layOn 2 = .ok (.iconst 0, 1) := by decide +kernel
theorem dX8_layOn_3 : decode cX8_layOn 3 = .ok (.istore 4, 2) := by decide +kernel
theorem dX8_layOn_5 : decode cX8_layOn 5 = .ok (.iload 4, 2) := by decide +kernel
theorem dX8_layOn_7 : decode cX8_layOn 7 = .ok (.bipush 11, 2) := by decide +kernel
theorem dX8_layOn_9 : decode cX8_layOn 9 = .ok (.if_icmp .ge 90, 3) := by decide +kernel
theorem dX8_layOn_12 : decode cX8_layOn 12 = .ok (.iconst 0, 1) := by decide +kernel
theorem dX8_layOn_13 : decode cX8_layOn 13 = .ok (.istore 5, 2) := by decide +kernel
theorem dX8_layOn_15 : decode cX8_layOn 15 = .ok (.iload 5, 2) := by decide +kernel
theorem dX8_layOn_17 : decode cX8_layOn 17 = .ok (.aload_n 0, 1) := by decide +kernel
theorem dX8_layOn_18 : decode cX8_layOn 18 = .ok (.getfield 47, 3) := by decide +kernel
theorem dX8_layOn_21 : decode cX8_layOn 21 = .ok (.if_icmp .ge 72, 3) := by decide +kernel
theorem dX8_layOn_24 : decode cX8_layOn 24 = .ok (.iload 4, 2) := by decide +kernel
theorem dX8_layOn_26 : decode cX8_layOn 26 = .ok (.iload 5, 2) := by decide +kernel
theorem dX8_layOn_28 : decode cX8_layOn 28 = .ok (.isub, 1) := by decide +kernel
theorem dX8_layOn_29 : decode cX8_layOn 29 = .ok (.istore 6, 2) := by decide +kernel
theorem dX8_layOn_31 : decode cX8_layOn 31 = .ok (.iload 6, 2) := by decide +kernel
theorem dX8_layOn_33 : decode cX8_layOn 33 = .ok (.i2l, 1) := by decide +kernel
theorem dX8_layOn_34 : decode cX8_layOn 34 = .ok (.lconst 0, 1) := by decide +kernel
theorem dX8_layOn_35 : decode cX8_layOn 35 = .ok (.aload_n 0, 1) := by decide +kernel
theorem dX8_layOn_36 : decode cX8_layOn 36 = .ok (.getfield 51, 3) := by decide +kernel
theorem dX8_layOn_39 : decode cX8_layOn 39 = .ok (.iconst 1, 1) := by decide +kernel
theorem dX8_layOn_40 : decode cX8_layOn 40 = .ok (.isub, 1) := by decide +kernel
theorem dX8_layOn_41 : decode cX8_layOn 41 = .ok (.i2l, 1) := by decide +kernel
theorem dX8_layOn_42 : decode cX8_layOn 42 = .ok (.invokestatic 57, 3) := by decide +kernel
theorem dX8_layOn_45 : decode cX8_layOn 45 = .ok (.ifCond .eq 42, 3) := by decide +kernel
theorem dX8_layOn_48 : decode cX8_layOn 48 = .ok (.iload 5, 2) := by decide +kernel
theorem dX8_layOn_50 : decode cX8_layOn 50 = .ok (.iload 6, 2) := by decide +kernel
theorem dX8_layOn_52 : decode cX8_layOn 52 = .ok (.isub, 1) := by decide +kernel
theorem dX8_layOn_53 : decode cX8_layOn 53 = .ok (.i2l, 1) := by decide +kernel
theorem dX8_layOn_54 : decode cX8_layOn 54 = .ok (.iload_n 2, 1) := by decide +kernel
theorem dX8_layOn_55 : decode cX8_layOn 55 = .ok (.ineg, 1) := by decide +kernel
theorem dX8_layOn_56 : decode cX8_layOn 56 = .ok (.i2l, 1) := by decide +kernel
theorem dX8_layOn_57 : decode cX8_layOn 57 = .ok (.iload_n 2, 1) := by decide +kernel
theorem dX8_layOn_58 : decode cX8_layOn 58 = .ok (.i2l, 1) := by decide +kernel
theorem dX8_layOn_59 : decode cX8_layOn 59 = .ok (.invokestatic 57, 3) := by decide +kernel
theorem dX8_layOn_62 : decode cX8_layOn 62 = .ok (.ifCond .eq 25, 3) := by decide +kernel
theorem dX8_layOn_65 : decode cX8_layOn 65 = .ok (.iload_n 3, 1) := by decide +kernel
theorem dX8_layOn_66 : decode cX8_layOn 66 = .ok (.aload_n 0, 1) := by decide +kernel
theorem dX8_layOn_67 : decode cX8_layOn 67 = .ok (.getfield 54, 3) := by decide +kernel
theorem dX8_layOn_70 : decode cX8_layOn 70 = .ok (.if_icmp .ge 17, 3) := by decide +kernel
theorem dX8_layOn_73 : decode cX8_layOn 73 = .ok (.aload_n 1, 1) := by decide +kernel
theorem dX8_layOn_74 : decode cX8_layOn 74 = .ok (.iload_n 3, 1) := by decide +kernel
theorem dX8_layOn_75 : decode cX8_layOn 75 = .ok (.bipush 6, 2) := by decide +kernel
theorem dX8_layOn_77 : decode cX8_layOn 77 = .ok (.iload 5, 2) := by decide +kernel
theorem dX8_layOn_79 : decode cX8_layOn 79 = .ok (.imul, 1) := by decide +kernel
theorem dX8_layOn_80 : decode cX8_layOn 80 = .ok (.iload 6, 2) := by decide +kernel
theorem dX8_layOn_82 : decode cX8_layOn 82 = .ok (.iadd, 1) := by decide +kernel
theorem dX8_layOn_83 : decode cX8_layOn 83 = .ok (.iastore, 1) := by decide +kernel
theorem dX8_layOn_84 : decode cX8_layOn 84 = .ok (.iinc 3 1, 3) := by decide +kernel
theorem dX8_layOn_87 : decode cX8_layOn 87 = .ok (.iinc 5 1, 3) := by decide +kernel
theorem dX8_layOn_90 : decode cX8_layOn 90 = .ok (.goto (-75), 3) := by decide +kernel
theorem dX8_layOn_93 : decode cX8_layOn 93 = .ok (.iinc 4 1, 3) := by decide +kernel
theorem dX8_layOn_96 : decode cX8_layOn 96 = .ok (.goto (-91), 3) := by decide +kernel
theorem dX8_layOn_99 : decode cX8_layOn 99 = .ok (.iload_n 3, 1) := by decide +kernel
theorem dX8_layOn_100 : decode cX8_layOn 100 = .ok (.aload_n 0, 1) := by decide +kernel
theorem dX8_layOn_101 : decode cX8_layOn 101 = .ok (.getfield 54, 3) := by decide +kernel
theorem dX8_layOn_104 : decode cX8_layOn 104 = .ok (.if_icmp .ne 7, 3) := by decide +kernel
theorem dX8_layOn_107 : decode cX8_layOn 107 = .ok (.iconst 1, 1) := by decide +kernel
theorem dX8_layOn_108 : decode cX8_layOn 108 = .ok (.goto 4, 3) := by decide +kernel
theorem dX8_layOn_111 : decode cX8_layOn 111 = .ok (.iconst 0, 1) := by decide +kernel
theorem dX8_layOn_112 : decode cX8_layOn 112 = .ok (.ireturn, 1) := by decide +kernel
theorem dX8_band_0 : decode cX8_band 0 = .ok (.bipush (-9), 2) := by decide +kernel
theorem dX8_band_2 : decode cX8_band 2 = .ok (.istore_n 1, 1) := by decide +kernel
theorem dX8_band_3 : decode cX8_band 3 = .ok (.iconst 5, 1) := by decide +kernel
theorem dX8_band_4 : decode cX8_band 4 = .ok (.istore_n 2, 1) := by decide +kernel
theorem dX8_band_5 : decode cX8_band 5 = .ok (.iload_n 2, 1) := by decide +kernel
theorem dX8_band_6 : decode cX8_band 6 = .ok (.ifCond .lt 38, 3) := by decide +kernel
theorem dX8_band_9 : decode cX8_band 9 = .ok (.aload_n 0, 1) := by decide +kernel
theorem dX8_band_10 : decode cX8_band 10 = .ok (.getfield 13, 3) := by decide +kernel
theorem dX8_band_13 : decode cX8_band 13 = .ok (.aload_n 0, 1) := by decide +kernel
theorem dX8_band_14 : decode cX8_band 14 = .ok (.getfield 16, 3) := by decide +kernel
theorem dX8_band_17 : decode cX8_band 17 = .ok (.invokestatic 134, 3) := by decide +kernel
theorem dX8_band_20 : decode cX8_band 20 = .ok (.aload_n 0, 1) := by decide +kernel
theorem dX8_band_21 : decode cX8_band 21 = .ok (.aload_n 0, 1) := by decide +kernel
theorem dX8_band_22 : decode cX8_band 22 = .ok (.getfield 16, 3) := by decide +kernel
theorem dX8_band_25 : decode cX8_band 25 = .ok (.iload_n 2, 1) := by decide +kernel
theorem dX8_band_26 : decode cX8_band 26 = .ok (.invokevirtual 145, 3) := by decide +kernel
theorem dX8_band_29 : decode cX8_band 29 = .ok (.ifCond .eq 7, 3) := by decide +kernel
theorem dX8_band_32 : decode cX8_band 32 = .ok (.iload_n 2, 1) := by decide +kernel
theorem dX8_band_33 : decode cX8_band 33 = .ok (.goto 4, 3) := by decide +kernel
theorem dX8_band_36 : decode cX8_band 36 = .ok (.iload_n 1, 1) := by decide +kernel
theorem dX8_band_37 : decode cX8_band 37 = .ok (.istore_n 1, 1) := by decide +kernel
theorem dX8_band_38 : decode cX8_band 38 = .ok (.iinc 2 (-1), 3) := by decide +kernel
theorem dX8_band_41 : decode cX8_band 41 = .ok (.goto (-36), 3) := by decide +kernel
theorem dX8_band_44 : decode cX8_band 44 = .ok (.iload_n 1, 1) := by decide +kernel
theorem dX8_band_45 : decode cX8_band 45 = .ok (.ireturn, 1) := by decide +kernel
theorem dX8_about_0 : decode cX8_about 0 = .ok (.iload_n 1, 1) := by decide +kernel
theorem dX8_about_1 : decode cX8_about 1 = .ok (.tableswitch 177 0 14 #[75, 80, 85, 90, 98, 106, 111, 127, 137, 147, 152, 157, 162, 167, 172], 75) := by decide +kernel
theorem dX8_about_76 : decode cX8_about 76 = .ok (.aload_n 0, 1) := by decide +kernel
theorem dX8_about_77 : decode cX8_about 77 = .ok (.getfield 47, 3) := by decide +kernel
theorem dX8_about_80 : decode cX8_about 80 = .ok (.ireturn, 1) := by decide +kernel
theorem dX8_about_81 : decode cX8_about 81 = .ok (.aload_n 0, 1) := by decide +kernel
theorem dX8_about_82 : decode cX8_about 82 = .ok (.getfield 51, 3) := by decide +kernel
theorem dX8_about_85 : decode cX8_about 85 = .ok (.ireturn, 1) := by decide +kernel
theorem dX8_about_86 : decode cX8_about 86 = .ok (.aload_n 0, 1) := by decide +kernel
theorem dX8_about_87 : decode cX8_about 87 = .ok (.getfield 54, 3) := by decide +kernel
theorem dX8_about_90 : decode cX8_about 90 = .ok (.ireturn, 1) := by decide +kernel
theorem dX8_about_91 : decode cX8_about 91 = .ok (.aload_n 0, 1) := by decide +kernel
theorem dX8_about_92 : decode cX8_about 92 = .ok (.getfield 13, 3) := by decide +kernel
theorem dX8_about_95 : decode cX8_about 95 = .ok (.bipush 36, 2) := by decide +kernel
theorem dX8_about_97 : decode cX8_about 97 = .ok (.iaload, 1) := by decide +kernel
theorem dX8_about_98 : decode cX8_about 98 = .ok (.ireturn, 1) := by decide +kernel
theorem dX8_about_99 : decode cX8_about 99 = .ok (.aload_n 0, 1) := by decide +kernel
theorem dX8_about_100 : decode cX8_about 100 = .ok (.getfield 13, 3) := by decide +kernel
theorem dX8_about_103 : decode cX8_about 103 = .ok (.bipush 37, 2) := by decide +kernel
theorem dX8_about_105 : decode cX8_about 105 = .ok (.iaload, 1) := by decide +kernel
theorem dX8_about_106 : decode cX8_about 106 = .ok (.ireturn, 1) := by decide +kernel
theorem dX8_about_107 : decode cX8_about 107 = .ok (.aload_n 0, 1) := by decide +kernel
theorem dX8_about_108 : decode cX8_about 108 = .ok (.invokevirtual 149, 3) := by decide +kernel
theorem dX8_about_111 : decode cX8_about 111 = .ok (.ireturn, 1) := by decide +kernel
theorem dX8_about_112 : decode cX8_about 112 = .ok (.aload_n 0, 1) := by decide +kernel
theorem dX8_about_113 : decode cX8_about 113 = .ok (.aload_n 0, 1) := by decide +kernel
theorem dX8_about_114 : decode cX8_about 114 = .ok (.getfield 13, 3) := by decide +kernel
theorem dX8_about_117 : decode cX8_about 117 = .ok (.aload_n 0, 1) := by decide +kernel
theorem dX8_about_118 : decode cX8_about 118 = .ok (.getfield 13, 3) := by decide +kernel
theorem dX8_about_121 : decode cX8_about 121 = .ok (.bipush 37, 2) := by decide +kernel
theorem dX8_about_123 : decode cX8_about 123 = .ok (.iaload, 1) := by decide +kernel
theorem dX8_about_124 : decode cX8_about 124 = .ok (.invokevirtual 142, 3) := by decide +kernel
theorem dX8_about_127 : decode cX8_about 127 = .ok (.ireturn, 1) := by decide +kernel
theorem dX8_about_128 : decode cX8_about 128 = .ok (.aload_n 0, 1) := by decide +kernel
theorem dX8_about_129 : decode cX8_about 129 = .ok (.aload_n 0, 1) := by decide +kernel
theorem dX8_about_130 : decode cX8_about 130 = .ok (.getfield 13, 3) := by decide +kernel
theorem dX8_about_133 : decode cX8_about 133 = .ok (.iconst 0, 1) := by decide +kernel
theorem dX8_about_134 : decode cX8_about 134 = .ok (.invokevirtual 110, 3) := by decide +kernel
theorem dX8_about_137 : decode cX8_about 137 = .ok (.ireturn, 1) := by decide +kernel
theorem dX8_about_138 : decode cX8_about 138 = .ok (.aload_n 0, 1) := by decide +kernel
theorem dX8_about_139 : decode cX8_about 139 = .ok (.aload_n 0, 1) := by decide +kernel
theorem dX8_about_140 : decode cX8_about 140 = .ok (.getfield 13, 3) := by decide +kernel
theorem dX8_about_143 : decode cX8_about 143 = .ok (.iconst 1, 1) := by decide +kernel
theorem dX8_about_144 : decode cX8_about 144 = .ok (.invokevirtual 110, 3) := by decide +kernel
theorem dX8_about_147 : decode cX8_about 147 = .ok (.ireturn, 1) := by decide +kernel
theorem dX8_about_148 : decode cX8_about 148 = .ok (.aload_n 0, 1) := by decide +kernel
theorem dX8_about_149 : decode cX8_about 149 = .ok (.invokevirtual 152, 3) := by decide +kernel
theorem dX8_about_152 : decode cX8_about 152 = .ok (.ireturn, 1) := by decide +kernel
theorem dX8_about_153 : decode cX8_about 153 = .ok (.aload_n 0, 1) := by decide +kernel
theorem dX8_about_154 : decode cX8_about 154 = .ok (.invokevirtual 155, 3) := by decide +kernel
theorem dX8_about_157 : decode cX8_about 157 = .ok (.ireturn, 1) := by decide +kernel
theorem dX8_about_158 : decode cX8_about 158 = .ok (.aload_n 0, 1) := by decide +kernel
theorem dX8_about_159 : decode cX8_about 159 = .ok (.invokevirtual 158, 3) := by decide +kernel
theorem dX8_about_162 : decode cX8_about 162 = .ok (.ireturn, 1) := by decide +kernel
theorem dX8_about_163 : decode cX8_about 163 = .ok (.aload_n 0, 1) := by decide +kernel
theorem dX8_about_164 : decode cX8_about 164 = .ok (.getfield 99, 3) := by decide +kernel
theorem dX8_about_167 : decode cX8_about 167 = .ok (.ireturn, 1) := by decide +kernel
theorem dX8_about_168 : decode cX8_about 168 = .ok (.aload_n 0, 1) := by decide +kernel
theorem dX8_about_169 : decode cX8_about 169 = .ok (.getfield 161, 3) := by decide +kernel
theorem dX8_about_172 : decode cX8_about 172 = .ok (.ireturn, 1) := by decide +kernel
theorem dX8_about_173 : decode cX8_about 173 = .ok (.aload_n 0, 1) := by decide +kernel
theorem dX8_about_174 : decode cX8_about 174 = .ok (.getfield 65, 3) := by decide +kernel
theorem dX8_about_177 : decode cX8_about 177 = .ok (.ireturn, 1) := by decide +kernel
theorem dX8_about_178 : decode cX8_about 178 = .ok (.bipush (-2), 2) := by decide +kernel
theorem dX8_about_180 : decode cX8_about 180 = .ok (.ireturn, 1) := by decide +kernel
theorem dX8_howOften_0 : decode cX8_howOften 0 = .ok (.iconst 0, 1) := by decide +kernel
theorem dX8_howOften_1 : decode cX8_howOften 1 = .ok (.istore_n 2, 1) := by decide +kernel
theorem dX8_howOften_2 : decode cX8_howOften 2 = .ok (.iconst 0, 1) := by decide +kernel
theorem dX8_howOften_3 : decode cX8_howOften 3 = .ok (.istore_n 3, 1) := by decide +kernel
theorem dX8_howOften_4 : decode cX8_howOften 4 = .ok (.iload_n 3, 1) := by decide +kernel
theorem dX8_howOften_5 : decode cX8_howOften 5 = .ok (.bipush 16, 2) := by decide +kernel
theorem dX8_howOften_7 : decode cX8_howOften 7 = .ok (.if_icmp .ge 30, 3) := by decide +kernel
theorem dX8_howOften_10 : decode cX8_howOften 10 = .ok (.iload_n 2, 1) := by decide +kernel
theorem dX8_howOften_11 : decode cX8_howOften 11 = .ok (.aload_n 0, 1) := by decide +kernel
theorem dX8_howOften_12 : decode cX8_howOften 12 = .ok (.getfield 13, 3) := by decide +kernel
theorem dX8_howOften_15 : decode cX8_howOften 15 = .ok (.bipush 20, 2) := by decide +kernel
theorem dX8_howOften_17 : decode cX8_howOften 17 = .ok (.iload_n 3, 1) := by decide +kernel
theorem dX8_howOften_18 : decode cX8_howOften 18 = .ok (.iadd, 1) := by decide +kernel
theorem dX8_howOften_19 : decode cX8_howOften 19 = .ok (.iaload, 1) := by decide +kernel
theorem dX8_howOften_20 : decode cX8_howOften 20 = .ok (.iload_n 1, 1) := by decide +kernel
theorem dX8_howOften_21 : decode cX8_howOften 21 = .ok (.if_icmp .ne 7, 3) := by decide +kernel
theorem dX8_howOften_24 : decode cX8_howOften 24 = .ok (.iconst 1, 1) := by decide +kernel
theorem dX8_howOften_25 : decode cX8_howOften 25 = .ok (.goto 4, 3) := by decide +kernel
theorem dX8_howOften_28 : decode cX8_howOften 28 = .ok (.iconst 0, 1) := by decide +kernel
theorem dX8_howOften_29 : decode cX8_howOften 29 = .ok (.iadd, 1) := by decide +kernel
theorem dX8_howOften_30 : decode cX8_howOften 30 = .ok (.istore_n 2, 1) := by decide +kernel
theorem dX8_howOften_31 : decode cX8_howOften 31 = .ok (.iinc 3 1, 3) := by decide +kernel
theorem dX8_howOften_34 : decode cX8_howOften 34 = .ok (.goto (-30), 3) := by decide +kernel
theorem dX8_howOften_37 : decode cX8_howOften 37 = .ok (.iload_n 2, 1) := by decide +kernel
theorem dX8_howOften_38 : decode cX8_howOften 38 = .ok (.ireturn, 1) := by decide +kernel
theorem dX8_shade_0 : decode cX8_shade 0 = .ok (.aload_n 0, 1) := by decide +kernel
theorem dX8_shade_1 : decode cX8_shade 1 = .ok (.iload_n 1, 1) := by decide +kernel
theorem dX8_shade_2 : decode cX8_shade 2 = .ok (.invokevirtual 164, 3) := by decide +kernel
theorem dX8_shade_5 : decode cX8_shade 5 = .ok (.ifCond .ne 5, 3) := by decide +kernel
theorem dX8_shade_8 : decode cX8_shade 8 = .ok (.iconst (-1), 1) := by decide +kernel
theorem dX8_shade_9 : decode cX8_shade 9 = .ok (.ireturn, 1) := by decide +kernel
theorem dX8_shade_10 : decode cX8_shade 10 = .ok (.iload_n 2, 1) := by decide +kernel
theorem dX8_shade_11 : decode cX8_shade 11 = .ok (.tableswitch 51 0 2 #[25, 35, 45], 25) := by decide +kernel
theorem dX8_shade_36 : decode cX8_shade 36 = .ok (.aload_n 0, 1) := by decide +kernel
theorem dX8_shade_37 : decode cX8_shade 37 = .ok (.getfield 13, 3) := by decide +kernel
theorem dX8_shade_40 : decode cX8_shade 40 = .ok (.iload_n 1, 1) := by decide +kernel
theorem dX8_shade_41 : decode cX8_shade 41 = .ok (.iaload, 1) := by decide +kernel
theorem dX8_shade_42 : decode cX8_shade 42 = .ok (.bipush 6, 2) := by decide +kernel
theorem dX8_shade_44 : decode cX8_shade 44 = .ok (.idiv, 1) := by decide +kernel
theorem dX8_shade_45 : decode cX8_shade 45 = .ok (.ireturn, 1) := by decide +kernel
theorem dX8_shade_46 : decode cX8_shade 46 = .ok (.aload_n 0, 1) := by decide +kernel
theorem dX8_shade_47 : decode cX8_shade 47 = .ok (.getfield 13, 3) := by decide +kernel
theorem dX8_shade_50 : decode cX8_shade 50 = .ok (.iload_n 1, 1) := by decide +kernel
theorem dX8_shade_51 : decode cX8_shade 51 = .ok (.iaload, 1) := by decide +kernel
theorem dX8_shade_52 : decode cX8_shade 52 = .ok (.bipush 6, 2) := by decide +kernel
theorem dX8_shade_54 : decode cX8_shade 54 = .ok (.irem, 1) := by decide +kernel
theorem dX8_shade_55 : decode cX8_shade 55 = .ok (.ireturn, 1) := by decide +kernel
theorem dX8_shade_56 : decode cX8_shade 56 = .ok (.aload_n 0, 1) := by decide +kernel
theorem dX8_shade_57 : decode cX8_shade 57 = .ok (.iload_n 1, 1) := by decide +kernel
theorem dX8_shade_58 : decode cX8_shade 58 = .ok (.invokevirtual 167, 3) := by decide +kernel
theorem dX8_shade_61 : decode cX8_shade 61 = .ok (.ireturn, 1) := by decide +kernel
theorem dX8_shade_62 : decode cX8_shade 62 = .ok (.bipush (-2), 2) := by decide +kernel
theorem dX8_shade_64 : decode cX8_shade 64 = .ok (.ireturn, 1) := by decide +kernel
theorem dX8_shadeAt_0 : decode cX8_shadeAt 0 = .ok (.bipush (-9), 2) := by decide +kernel
theorem dX8_shadeAt_2 : decode cX8_shadeAt 2 = .ok (.istore_n 2, 1) := by decide +kernel
theorem dX8_shadeAt_3 : decode cX8_shadeAt 3 = .ok (.iconst 0, 1) := by decide +kernel
theorem dX8_shadeAt_4 : decode cX8_shadeAt 4 = .ok (.istore_n 3, 1) := by decide +kernel
theorem dX8_shadeAt_5 : decode cX8_shadeAt 5 = .ok (.iload_n 3, 1) := by decide +kernel
theorem dX8_shadeAt_6 : decode cX8_shadeAt 6 = .ok (.aload_n 0, 1) := by decide +kernel
theorem dX8_shadeAt_7 : decode cX8_shadeAt 7 = .ok (.getfield 54, 3) := by decide +kernel
theorem dX8_shadeAt_10 : decode cX8_shadeAt 10 = .ok (.if_icmp .ge 25, 3) := by decide +kernel
theorem dX8_shadeAt_13 : decode cX8_shadeAt 13 = .ok (.aload_n 0, 1) := by decide +kernel
theorem dX8_shadeAt_14 : decode cX8_shadeAt 14 = .ok (.getfield 13, 3) := by decide +kernel
theorem dX8_shadeAt_17 : decode cX8_shadeAt 17 = .ok (.iload_n 3, 1) := by decide +kernel
theorem dX8_shadeAt_18 : decode cX8_shadeAt 18 = .ok (.iaload, 1) := by decide +kernel
theorem dX8_shadeAt_19 : decode cX8_shadeAt 19 = .ok (.iload_n 1, 1) := by decide +kernel
theorem dX8_shadeAt_20 : decode cX8_shadeAt 20 = .ok (.if_icmp .ne 7, 3) := by decide +kernel
theorem dX8_shadeAt_23 : decode cX8_shadeAt 23 = .ok (.iload_n 3, 1) := by decide +kernel
theorem dX8_shadeAt_24 : decode cX8_shadeAt 24 = .ok (.goto 4, 3) := by decide +kernel
theorem dX8_shadeAt_27 : decode cX8_shadeAt 27 = .ok (.iload_n 2, 1) := by decide +kernel
theorem dX8_shadeAt_28 : decode cX8_shadeAt 28 = .ok (.istore_n 2, 1) := by decide +kernel
theorem dX8_shadeAt_29 : decode cX8_shadeAt 29 = .ok (.iinc 3 1, 3) := by decide +kernel
theorem dX8_shadeAt_32 : decode cX8_shadeAt 32 = .ok (.goto (-27), 3) := by decide +kernel
theorem dX8_shadeAt_35 : decode cX8_shadeAt 35 = .ok (.iload_n 2, 1) := by decide +kernel
theorem dX8_shadeAt_36 : decode cX8_shadeAt 36 = .ok (.ireturn, 1) := by decide +kernel
theorem dX8_isCell_0 : decode cX8_isCell 0 = .ok (.iload_n 1, 1) := by decide +kernel
theorem dX8_isCell_1 : decode cX8_isCell 1 = .ok (.i2l, 1) := by decide +kernel
theorem dX8_isCell_2 : decode cX8_isCell 2 = .ok (.lconst 0, 1) := by decide +kernel
theorem dX8_isCell_3 : decode cX8_isCell 3 = .ok (.aload_n 0, 1) := by decide +kernel
theorem dX8_isCell_4 : decode cX8_isCell 4 = .ok (.getfield 47, 3) := by decide +kernel
theorem dX8_isCell_7 : decode cX8_isCell 7 = .ok (.iconst 1, 1) := by decide +kernel
theorem dX8_isCell_8 : decode cX8_isCell 8 = .ok (.isub, 1) := by decide +kernel
theorem dX8_isCell_9 : decode cX8_isCell 9 = .ok (.i2l, 1) := by decide +kernel
theorem dX8_isCell_10 : decode cX8_isCell 10 = .ok (.invokestatic 57, 3) := by decide +kernel
theorem dX8_isCell_13 : decode cX8_isCell 13 = .ok (.ifCond .eq 23, 3) := by decide +kernel
theorem dX8_isCell_16 : decode cX8_isCell 16 = .ok (.iload_n 2, 1) := by decide +kernel
theorem dX8_isCell_17 : decode cX8_isCell 17 = .ok (.i2l, 1) := by decide +kernel
theorem dX8_isCell_18 : decode cX8_isCell 18 = .ok (.lconst 0, 1) := by decide +kernel
theorem dX8_isCell_19 : decode cX8_isCell 19 = .ok (.aload_n 0, 1) := by decide +kernel
theorem dX8_isCell_20 : decode cX8_isCell 20 = .ok (.getfield 51, 3) := by decide +kernel
theorem dX8_isCell_23 : decode cX8_isCell 23 = .ok (.iconst 1, 1) := by decide +kernel
theorem dX8_isCell_24 : decode cX8_isCell 24 = .ok (.isub, 1) := by decide +kernel
theorem dX8_isCell_25 : decode cX8_isCell 25 = .ok (.i2l, 1) := by decide +kernel
theorem dX8_isCell_26 : decode cX8_isCell 26 = .ok (.invokestatic 57, 3) := by decide +kernel
theorem dX8_isCell_29 : decode cX8_isCell 29 = .ok (.ifCond .eq 7, 3) := by decide +kernel
theorem dX8_isCell_32 : decode cX8_isCell 32 = .ok (.iconst 1, 1) := by decide +kernel
theorem dX8_isCell_33 : decode cX8_isCell 33 = .ok (.goto 4, 3) := by decide +kernel
theorem dX8_isCell_36 : decode cX8_isCell 36 = .ok (.iconst 0, 1) := by decide +kernel
theorem dX8_isCell_37 : decode cX8_isCell 37 = .ok (.ireturn, 1) := by decide +kernel
theorem dX8_cell_0 : decode cX8_cell 0 = .ok (.aload_n 0, 1) := by decide +kernel
theorem dX8_cell_1 : decode cX8_cell 1 = .ok (.iload_n 1, 1) := by decide +kernel
theorem dX8_cell_2 : decode cX8_cell 2 = .ok (.iload_n 2, 1) := by decide +kernel
theorem dX8_cell_3 : decode cX8_cell 3 = .ok (.invokevirtual 171, 3) := by decide +kernel
theorem dX8_cell_6 : decode cX8_cell 6 = .ok (.ifCond .eq 16, 3) := by decide +kernel
theorem dX8_cell_9 : decode cX8_cell 9 = .ok (.aload_n 0, 1) := by decide +kernel
theorem dX8_cell_10 : decode cX8_cell 10 = .ok (.bipush 6, 2) := by decide +kernel
theorem dX8_cell_12 : decode cX8_cell 12 = .ok (.iload_n 1, 1) := by decide +kernel
theorem dX8_cell_13 : decode cX8_cell 13 = .ok (.imul, 1) := by decide +kernel
theorem dX8_cell_14 : decode cX8_cell 14 = .ok (.iload_n 2, 1) := by decide +kernel
theorem dX8_cell_15 : decode cX8_cell 15 = .ok (.iadd, 1) := by decide +kernel
theorem dX8_cell_16 : decode cX8_cell 16 = .ok (.invokevirtual 174, 3) := by decide +kernel
theorem dX8_cell_19 : decode cX8_cell 19 = .ok (.goto 4, 3) := by decide +kernel
theorem dX8_cell_22 : decode cX8_cell 22 = .ok (.iconst (-1), 1) := by decide +kernel
theorem dX8_cell_23 : decode cX8_cell 23 = .ok (.ireturn, 1) := by decide +kernel
theorem dX8_guess_0 : decode cX8_guess 0 = .ok (.iload_n 1, 1) := by decide +kernel
theorem dX8_guess_1 : decode cX8_guess 1 = .ok (.i2l, 1) := by decide +kernel
theorem dX8_guess_2 : decode cX8_guess 2 = .ok (.lconst 0, 1) := by decide +kernel
theorem dX8_guess_3 : decode cX8_guess 3 = .ok (.lconst 1, 1) := by decide +kernel
theorem dX8_guess_4 : decode cX8_guess 4 = .ok (.invokestatic 57, 3) := by decide +kernel
theorem dX8_guess_7 : decode cX8_guess 7 = .ok (.ifCond .ne 6, 3) := by decide +kernel
theorem dX8_guess_10 : decode cX8_guess 10 = .ok (.bipush (-2), 2) := by decide +kernel
theorem dX8_guess_12 : decode cX8_guess 12 = .ok (.ireturn, 1) := by decide +kernel
theorem dX8_guess_13 : decode cX8_guess 13 = .ok (.iload_n 2, 1) := by decide +kernel
theorem dX8_guess_14 : decode cX8_guess 14 = .ok (.i2l, 1) := by decide +kernel
theorem dX8_guess_15 : decode cX8_guess 15 = .ok (.lconst 0, 1) := by decide +kernel
theorem dX8_guess_16 : decode cX8_guess 16 = .ok (.iload_n 1, 1) := by decide +kernel
theorem dX8_guess_17 : decode cX8_guess 17 = .ok (.ifCond .ne 10, 3) := by decide +kernel
theorem dX8_guess_20 : decode cX8_guess 20 = .ok (.aload_n 0, 1) := by decide +kernel
theorem dX8_guess_21 : decode cX8_guess 21 = .ok (.getfield 47, 3) := by decide +kernel
theorem dX8_guess_24 : decode cX8_guess 24 = .ok (.goto 7, 3) := by decide +kernel
theorem dX8_guess_27 : decode cX8_guess 27 = .ok (.aload_n 0, 1) := by decide +kernel
theorem dX8_guess_28 : decode cX8_guess 28 = .ok (.getfield 51, 3) := by decide +kernel
theorem dX8_guess_31 : decode cX8_guess 31 = .ok (.iconst 1, 1) := by decide +kernel
theorem dX8_guess_32 : decode cX8_guess 32 = .ok (.isub, 1) := by decide +kernel
theorem dX8_guess_33 : decode cX8_guess 33 = .ok (.i2l, 1) := by decide +kernel
theorem dX8_guess_34 : decode cX8_guess 34 = .ok (.invokestatic 57, 3) := by decide +kernel
theorem dX8_guess_37 : decode cX8_guess 37 = .ok (.ifCond .eq 16, 3) := by decide +kernel
theorem dX8_guess_40 : decode cX8_guess 40 = .ok (.aload_n 0, 1) := by decide +kernel
theorem dX8_guess_41 : decode cX8_guess 41 = .ok (.aload_n 0, 1) := by decide +kernel
theorem dX8_guess_42 : decode cX8_guess 42 = .ok (.getfield 13, 3) := by decide +kernel
theorem dX8_guess_45 : decode cX8_guess 45 = .ok (.iload_n 1, 1) := by decide +kernel
theorem dX8_guess_46 : decode cX8_guess 46 = .ok (.iload_n 2, 1) := by decide +kernel
theorem dX8_guess_47 : decode cX8_guess 47 = .ok (.invokevirtual 106, 3) := by decide +kernel
theorem dX8_guess_50 : decode cX8_guess 50 = .ok (.goto 4, 3) := by decide +kernel
theorem dX8_guess_53 : decode cX8_guess 53 = .ok (.iconst (-1), 1) := by decide +kernel
theorem dX8_guess_54 : decode cX8_guess 54 = .ok (.ireturn, 1) := by decide +kernel
theorem dX8_dot_0 : decode cX8_dot 0 = .ok (.iload_n 1, 1) := by decide +kernel
theorem dX8_dot_1 : decode cX8_dot 1 = .ok (.invokestatic 177, 3) := by decide +kernel
theorem dX8_dot_4 : decode cX8_dot 4 = .ok (.ifCond .eq 10, 3) := by decide +kernel
theorem dX8_dot_7 : decode cX8_dot 7 = .ok (.iload_n 2, 1) := by decide +kernel
theorem dX8_dot_8 : decode cX8_dot 8 = .ok (.invokestatic 177, 3) := by decide +kernel
theorem dX8_dot_11 : decode cX8_dot 11 = .ok (.ifCond .ne 5, 3) := by decide +kernel
theorem dX8_dot_14 : decode cX8_dot 14 = .ok (.iconst (-1), 1) := by decide +kernel
theorem dX8_dot_15 : decode cX8_dot 15 = .ok (.ireturn, 1) := by decide +kernel
theorem dX8_dot_16 : decode cX8_dot 16 = .ok (.aload_n 0, 1) := by decide +kernel
theorem dX8_dot_17 : decode cX8_dot 17 = .ok (.aload_n 0, 1) := by decide +kernel
theorem dX8_dot_18 : decode cX8_dot 18 = .ok (.getfield 13, 3) := by decide +kernel
theorem dX8_dot_21 : decode cX8_dot 21 = .ok (.aload_n 0, 1) := by decide +kernel
theorem dX8_dot_22 : decode cX8_dot 22 = .ok (.getfield 13, 3) := by decide +kernel
theorem dX8_dot_25 : decode cX8_dot 25 = .ok (.bipush 37, 2) := by decide +kernel
theorem dX8_dot_27 : decode cX8_dot 27 = .ok (.iaload, 1) := by decide +kernel
theorem dX8_dot_28 : decode cX8_dot 28 = .ok (.invokevirtual 126, 3) := by decide +kernel
theorem dX8_dot_31 : decode cX8_dot 31 = .ok (.iload_n 3, 1) := by decide +kernel
theorem dX8_dot_32 : decode cX8_dot 32 = .ok (.ifCond .eq 16, 3) := by decide +kernel
theorem dX8_dot_35 : decode cX8_dot 35 = .ok (.aload_n 0, 1) := by decide +kernel
theorem dX8_dot_36 : decode cX8_dot 36 = .ok (.getfield 35, 3) := by decide +kernel
theorem dX8_dot_39 : decode cX8_dot 39 = .ok (.iconst 4, 1) := by decide +kernel
theorem dX8_dot_40 : decode cX8_dot 40 = .ok (.iload_n 1, 1) := by decide +kernel
theorem dX8_dot_41 : decode cX8_dot 41 = .ok (.imul, 1) := by decide +kernel
theorem dX8_dot_42 : decode cX8_dot 42 = .ok (.iload_n 2, 1) := by decide +kernel
theorem dX8_dot_43 : decode cX8_dot 43 = .ok (.iadd, 1) := by decide +kernel
theorem dX8_dot_44 : decode cX8_dot 44 = .ok (.iaload, 1) := by decide +kernel
theorem dX8_dot_45 : decode cX8_dot 45 = .ok (.goto 16, 3) := by decide +kernel
theorem dX8_dot_48 : decode cX8_dot 48 = .ok (.aload_n 0, 1) := by decide +kernel
theorem dX8_dot_49 : decode cX8_dot 49 = .ok (.getfield 13, 3) := by decide +kernel
theorem dX8_dot_52 : decode cX8_dot 52 = .ok (.bipush 20, 2) := by decide +kernel
theorem dX8_dot_54 : decode cX8_dot 54 = .ok (.iconst 4, 1) := by decide +kernel
theorem dX8_dot_55 : decode cX8_dot 55 = .ok (.iload_n 1, 1) := by decide +kernel
theorem dX8_dot_56 : decode cX8_dot 56 = .ok (.imul, 1) := by decide +kernel
theorem dX8_dot_57 : decode cX8_dot 57 = .ok (.iadd, 1) := by decide +kernel
theorem dX8_dot_58 : decode cX8_dot 58 = .ok (.iload_n 2, 1) := by decide +kernel
theorem dX8_dot_59 : decode cX8_dot 59 = .ok (.iadd, 1) := by decide +kernel
theorem dX8_dot_60 : decode cX8_dot 60 = .ok (.iaload, 1) := by decide +kernel
theorem dX8_dot_61 : decode cX8_dot 61 = .ok (.ireturn, 1) := by decide +kernel
theorem dX8_note_0 : decode cX8_note 0 = .ok (.iconst 0, 1) := by decide +kernel
theorem dX8_note_1 : decode cX8_note 1 = .ok (.istore_n 1, 1) := by decide +kernel
theorem dX8_note_2 : decode cX8_note 2 = .ok (.iload_n 1, 1) := by decide +kernel
theorem dX8_note_3 : decode cX8_note 3 = .ok (.bipush 38, 2) := by decide +kernel
theorem dX8_note_5 : decode cX8_note 5 = .ok (.if_icmp .ge 29, 3) := by decide +kernel
theorem dX8_note_8 : decode cX8_note 8 = .ok (.aload_n 0, 1) := by decide +kernel
theorem dX8_note_9 : decode cX8_note 9 = .ok (.getfield 19, 3) := by decide +kernel
theorem dX8_note_12 : decode cX8_note 12 = .ok (.bipush 38, 2) := by decide +kernel
theorem dX8_note_14 : decode cX8_note 14 = .ok (.aload_n 0, 1) := by decide +kernel
theorem dX8_note_15 : decode cX8_note 15 = .ok (.getfield 180, 3) := by decide +kernel
theorem dX8_note_18 : decode cX8_note 18 = .ok (.imul, 1) := by decide +kernel
theorem dX8_note_19 : decode cX8_note 19 = .ok (.iload_n 1, 1) := by decide +kernel
theorem dX8_note_20 : decode cX8_note 20 = .ok (.iadd, 1) := by decide +kernel
theorem dX8_note_21 : decode cX8_note 21 = .ok (.aload_n 0, 1) := by decide +kernel
theorem dX8_note_22 : decode cX8_note 22 = .ok (.getfield 13, 3) := by decide +kernel
theorem dX8_note_25 : decode cX8_note 25 = .ok (.iload_n 1, 1) := by decide +kernel
theorem dX8_note_26 : decode cX8_note 26 = .ok (.iaload, 1) := by decide +kernel
theorem dX8_note_27 : decode cX8_note 27 = .ok (.iastore, 1) := by decide +kernel
theorem dX8_note_28 : decode cX8_note 28 = .ok (.iinc 1 1, 3) := by decide +kernel
theorem dX8_note_31 : decode cX8_note 31 = .ok (.goto (-29), 3) := by decide +kernel
theorem dX8_note_34 : decode cX8_note 34 = .ok (.aload_n 0, 1) := by decide +kernel
theorem dX8_note_35 : decode cX8_note 35 = .ok (.aload_n 0, 1) := by decide +kernel
theorem dX8_note_36 : decode cX8_note 36 = .ok (.getfield 180, 3) := by decide +kernel
theorem dX8_note_39 : decode cX8_note 39 = .ok (.iconst 1, 1) := by decide +kernel
theorem dX8_note_40 : decode cX8_note 40 = .ok (.iadd, 1) := by decide +kernel
theorem dX8_note_41 : decode cX8_note 41 = .ok (.bipush 14, 2) := by decide +kernel
theorem dX8_note_43 : decode cX8_note 43 = .ok (.irem, 1) := by decide +kernel
theorem dX8_note_44 : decode cX8_note 44 = .ok (.putfield 180, 3) := by decide +kernel
theorem dX8_note_47 : decode cX8_note 47 = .ok (.aload_n 0, 1) := by decide +kernel
theorem dX8_note_48 : decode cX8_note 48 = .ok (.aload_n 0, 1) := by decide +kernel
theorem dX8_note_49 : decode cX8_note 49 = .ok (.getfield 99, 3) := by decide +kernel
theorem dX8_note_52 : decode cX8_note 52 = .ok (.bipush 14, 2) := by decide +kernel
theorem dX8_note_54 : decode cX8_note 54 = .ok (.if_icmp .ge 12, 3) := by decide +kernel
theorem dX8_note_57 : decode cX8_note 57 = .ok (.aload_n 0, 1) := by decide +kernel
theorem dX8_note_58 : decode cX8_note 58 = .ok (.getfield 99, 3) := by decide +kernel
theorem dX8_note_61 : decode cX8_note 61 = .ok (.iconst 1, 1) := by decide +kernel
theorem dX8_note_62 : decode cX8_note 62 = .ok (.iadd, 1) := by decide +kernel
theorem dX8_note_63 : decode cX8_note 63 = .ok (.goto 5, 3) := by decide +kernel
theorem dX8_note_66 : decode cX8_note 66 = .ok (.bipush 14, 2) := by decide +kernel
theorem dX8_note_68 : decode cX8_note 68 = .ok (.putfield 99, 3) := by decide +kernel
theorem dX8_note_71 : decode cX8_note 71 = .ok (.return_, 1) := by decide +kernel
theorem dX8_change_0 : decode cX8_change 0 = .ok (.aload_n 0, 1) := by decide +kernel
theorem dX8_change_1 : decode cX8_change 1 = .ok (.iload_n 1, 1) := by decide +kernel
theorem dX8_change_2 : decode cX8_change 2 = .ok (.invokevirtual 164, 3) := by decide +kernel
theorem dX8_change_5 : decode cX8_change 5 = .ok (.ifCond .eq 11, 3) := by decide +kernel
theorem dX8_change_8 : decode cX8_change 8 = .ok (.aload_n 0, 1) := by decide +kernel
theorem dX8_change_9 : decode cX8_change 9 = .ok (.iload_n 2, 1) := by decide +kernel
theorem dX8_change_10 : decode cX8_change 10 = .ok (.invokevirtual 164, 3) := by decide +kernel
theorem dX8_change_13 : decode cX8_change 13 = .ok (.ifCond .ne 5, 3) := by decide +kernel
theorem dX8_change_16 : decode cX8_change 16 = .ok (.iconst (-1), 1) := by decide +kernel
theorem dX8_change_17 : decode cX8_change 17 = .ok (.ireturn, 1) := by decide +kernel
theorem dX8_change_18 : decode cX8_change 18 = .ok (.iload_n 1, 1) := by decide +kernel
theorem dX8_change_19 : decode cX8_change 19 = .ok (.iload_n 2, 1) := by decide +kernel
theorem dX8_change_20 : decode cX8_change 20 = .ok (.if_icmp .ne 6, 3) := by decide +kernel
theorem dX8_change_23 : decode cX8_change 23 = .ok (.bipush (-3), 2) := by decide +kernel
theorem dX8_change_25 : decode cX8_change 25 = .ok (.ireturn, 1) := by decide +kernel
theorem dX8_change_26 : decode cX8_change 26 = .ok (.aload_n 0, 1) := by decide +kernel
theorem dX8_change_27 : decode cX8_change 27 = .ok (.invokevirtual 183, 3) := by decide +kernel
theorem dX8_change_30 : decode cX8_change 30 = .ok (.aload_n 0, 1) := by decide +kernel
theorem dX8_change_31 : decode cX8_change 31 = .ok (.getfield 13, 3) := by decide +kernel
theorem dX8_change_34 : decode cX8_change 34 = .ok (.iload_n 1, 1) := by decide +kernel
theorem dX8_change_35 : decode cX8_change 35 = .ok (.iload_n 2, 1) := by decide +kernel
theorem dX8_change_36 : decode cX8_change 36 = .ok (.invokestatic 138, 3) := by decide +kernel
theorem dX8_change_39 : decode cX8_change 39 = .ok (.aload_n 0, 1) := by decide +kernel
theorem dX8_change_40 : decode cX8_change 40 = .ok (.aload_n 0, 1) := by decide +kernel
theorem dX8_change_41 : decode cX8_change 41 = .ok (.getfield 13, 3) := by decide +kernel
theorem dX8_change_44 : decode cX8_change 44 = .ok (.invokevirtual 130, 3) := by decide +kernel
theorem dX8_change_47 : decode cX8_change 47 = .ok (.ireturn, 1) := by decide +kernel
theorem dX8_move_0 : decode cX8_move 0 = .ok (.aload_n 0, 1) := by decide +kernel
theorem dX8_move_1 : decode cX8_move 1 = .ok (.iload_n 1, 1) := by decide +kernel
theorem dX8_move_2 : decode cX8_move 2 = .ok (.invokevirtual 164, 3) := by decide +kernel
theorem dX8_move_5 : decode cX8_move 5 = .ok (.ifCond .eq 12, 3) := by decide +kernel
theorem dX8_move_8 : decode cX8_move 8 = .ok (.aload_n 0, 1) := by decide +kernel
theorem dX8_move_9 : decode cX8_move 9 = .ok (.iload_n 2, 1) := by decide +kernel
theorem dX8_move_10 : decode cX8_move 10 = .ok (.iload_n 3, 1) := by decide +kernel
theorem dX8_move_11 : decode cX8_move 11 = .ok (.invokevirtual 171, 3) := by decide +kernel
theorem dX8_move_14 : decode cX8_move 14 = .ok (.ifCond .ne 5, 3) := by decide +kernel
theorem dX8_move_17 : decode cX8_move 17 = .ok (.iconst (-1), 1) := by decide +kernel
theorem dX8_move_18 : decode cX8_move 18 = .ok (.ireturn, 1) := by decide +kernel
theorem dX8_move_19 : decode cX8_move 19 = .ok (.aload_n 0, 1) := by decide +kernel
theorem dX8_move_20 : decode cX8_move 20 = .ok (.bipush 6, 2) := by decide +kernel
theorem dX8_move_22 : decode cX8_move 22 = .ok (.iload_n 2, 1) := by decide +kernel
theorem dX8_move_23 : decode cX8_move 23 = .ok (.imul, 1) := by decide +kernel
theorem dX8_move_24 : decode cX8_move 24 = .ok (.iload_n 3, 1) := by decide +kernel
theorem dX8_move_25 : decode cX8_move 25 = .ok (.iadd, 1) := by decide +kernel
theorem dX8_move_26 : decode cX8_move 26 = .ok (.invokevirtual 174, 3) := by decide +kernel
theorem dX8_move_29 : decode cX8_move 29 = .ok (.bipush (-9), 2) := by decide +kernel
theorem dX8_move_31 : decode cX8_move 31 = .ok (.if_icmp .eq 6, 3) := by decide +kernel
theorem dX8_move_34 : decode cX8_move 34 = .ok (.bipush (-3), 2) := by decide +kernel
theorem dX8_move_36 : decode cX8_move 36 = .ok (.ireturn, 1) := by decide +kernel
theorem dX8_move_37 : decode cX8_move 37 = .ok (.aload_n 0, 1) := by decide +kernel
theorem dX8_move_38 : decode cX8_move 38 = .ok (.invokevirtual 183, 3) := by decide +kernel
theorem dX8_move_41 : decode cX8_move 41 = .ok (.aload_n 0, 1) := by decide +kernel
theorem dX8_move_42 : decode cX8_move 42 = .ok (.getfield 13, 3) := by decide +kernel
theorem dX8_move_45 : decode cX8_move 45 = .ok (.iload_n 1, 1) := by decide +kernel
theorem dX8_move_46 : decode cX8_move 46 = .ok (.bipush 6, 2) := by decide +kernel
theorem dX8_move_48 : decode cX8_move 48 = .ok (.iload_n 2, 1) := by decide +kernel
theorem dX8_move_49 : decode cX8_move 49 = .ok (.imul, 1) := by decide +kernel
theorem dX8_move_50 : decode cX8_move 50 = .ok (.iload_n 3, 1) := by decide +kernel
theorem dX8_move_51 : decode cX8_move 51 = .ok (.iadd, 1) := by decide +kernel
theorem dX8_move_52 : decode cX8_move 52 = .ok (.iastore, 1) := by decide +kernel
theorem dX8_move_53 : decode cX8_move 53 = .ok (.aload_n 0, 1) := by decide +kernel
theorem dX8_move_54 : decode cX8_move 54 = .ok (.aload_n 0, 1) := by decide +kernel
theorem dX8_move_55 : decode cX8_move 55 = .ok (.getfield 13, 3) := by decide +kernel
theorem dX8_move_58 : decode cX8_move 58 = .ok (.invokevirtual 130, 3) := by decide +kernel
theorem dX8_move_61 : decode cX8_move 61 = .ok (.ireturn, 1) := by decide +kernel
theorem dX8_lay_0 : decode cX8_lay 0 = .ok (.iload_n 1, 1) := by decide +kernel
theorem dX8_lay_1 : decode cX8_lay 1 = .ok (.i2l, 1) := by decide +kernel
theorem dX8_lay_2 : decode cX8_lay 2 = .ok (.lconst 0, 1) := by decide +kernel
theorem dX8_lay_3 : decode cX8_lay 3 = .ok (.ldc2_w 186, 3) := by decide +kernel
theorem dX8_lay_6 : decode cX8_lay 6 = .ok (.invokestatic 57, 3) := by decide +kernel
theorem dX8_lay_9 : decode cX8_lay 9 = .ok (.ifCond .ne 6, 3) := by decide +kernel
theorem dX8_lay_12 : decode cX8_lay 12 = .ok (.bipush (-2), 2) := by decide +kernel
theorem dX8_lay_14 : decode cX8_lay 14 = .ok (.ireturn, 1) := by decide +kernel
theorem dX8_lay_15 : decode cX8_lay 15 = .ok (.aload_n 0, 1) := by decide +kernel
theorem dX8_lay_16 : decode cX8_lay 16 = .ok (.getfield 13, 3) := by decide +kernel
theorem dX8_lay_19 : decode cX8_lay 19 = .ok (.aload_n 0, 1) := by decide +kernel
theorem dX8_lay_20 : decode cX8_lay 20 = .ok (.getfield 16, 3) := by decide +kernel
theorem dX8_lay_23 : decode cX8_lay 23 = .ok (.invokestatic 134, 3) := by decide +kernel
theorem dX8_lay_26 : decode cX8_lay 26 = .ok (.aload_n 0, 1) := by decide +kernel
theorem dX8_lay_27 : decode cX8_lay 27 = .ok (.aload_n 0, 1) := by decide +kernel
theorem dX8_lay_28 : decode cX8_lay 28 = .ok (.getfield 16, 3) := by decide +kernel
theorem dX8_lay_31 : decode cX8_lay 31 = .ok (.iload_n 1, 1) := by decide +kernel
theorem dX8_lay_32 : decode cX8_lay 32 = .ok (.invokevirtual 145, 3) := by decide +kernel
theorem dX8_lay_35 : decode cX8_lay 35 = .ok (.ifCond .ne 6, 3) := by decide +kernel
theorem dX8_lay_38 : decode cX8_lay 38 = .ok (.bipush (-3), 2) := by decide +kernel
theorem dX8_lay_40 : decode cX8_lay 40 = .ok (.ireturn, 1) := by decide +kernel
theorem dX8_lay_41 : decode cX8_lay 41 = .ok (.aload_n 0, 1) := by decide +kernel
theorem dX8_lay_42 : decode cX8_lay 42 = .ok (.invokevirtual 183, 3) := by decide +kernel
theorem dX8_lay_45 : decode cX8_lay 45 = .ok (.aload_n 0, 1) := by decide +kernel
theorem dX8_lay_46 : decode cX8_lay 46 = .ok (.getfield 16, 3) := by decide +kernel
theorem dX8_lay_49 : decode cX8_lay 49 = .ok (.aload_n 0, 1) := by decide +kernel
theorem dX8_lay_50 : decode cX8_lay 50 = .ok (.getfield 13, 3) := by decide +kernel
theorem dX8_lay_53 : decode cX8_lay 53 = .ok (.invokestatic 134, 3) := by decide +kernel
theorem dX8_lay_56 : decode cX8_lay 56 = .ok (.aload_n 0, 1) := by decide +kernel
theorem dX8_lay_57 : decode cX8_lay 57 = .ok (.aload_n 0, 1) := by decide +kernel
theorem dX8_lay_58 : decode cX8_lay 58 = .ok (.getfield 13, 3) := by decide +kernel
theorem dX8_lay_61 : decode cX8_lay 61 = .ok (.invokevirtual 130, 3) := by decide +kernel
theorem dX8_lay_64 : decode cX8_lay 64 = .ok (.ireturn, 1) := by decide +kernel
theorem dX8_paint_0 : decode cX8_paint 0 = .ok (.iload_n 1, 1) := by decide +kernel
theorem dX8_paint_1 : decode cX8_paint 1 = .ok (.invokestatic 177, 3) := by decide +kernel
theorem dX8_paint_4 : decode cX8_paint 4 = .ok (.ifCond .eq 18, 3) := by decide +kernel
theorem dX8_paint_7 : decode cX8_paint 7 = .ok (.iload_n 2, 1) := by decide +kernel
theorem dX8_paint_8 : decode cX8_paint 8 = .ok (.invokestatic 177, 3) := by decide +kernel
theorem dX8_paint_11 : decode cX8_paint 11 = .ok (.ifCond .eq 11, 3) := by decide +kernel
theorem dX8_paint_14 : decode cX8_paint 14 = .ok (.aload_n 0, 1) := by decide +kernel
theorem dX8_paint_15 : decode cX8_paint 15 = .ok (.iload_n 3, 1) := by decide +kernel
theorem dX8_paint_16 : decode cX8_paint 16 = .ok (.invokevirtual 164, 3) := by decide +kernel
theorem dX8_paint_19 : decode cX8_paint 19 = .ok (.ifCond .ne 5, 3) := by decide +kernel
theorem dX8_paint_22 : decode cX8_paint 22 = .ok (.iconst (-1), 1) := by decide +kernel
theorem dX8_paint_23 : decode cX8_paint 23 = .ok (.ireturn, 1) := by decide +kernel
theorem dX8_paint_24 : decode cX8_paint 24 = .ok (.aload_n 0, 1) := by decide +kernel
theorem dX8_paint_25 : decode cX8_paint 25 = .ok (.invokevirtual 183, 3) := by decide +kernel
theorem dX8_paint_28 : decode cX8_paint 28 = .ok (.aload_n 0, 1) := by decide +kernel
theorem dX8_paint_29 : decode cX8_paint 29 = .ok (.getfield 13, 3) := by decide +kernel
theorem dX8_paint_32 : decode cX8_paint 32 = .ok (.bipush 20, 2) := by decide +kernel
theorem dX8_paint_34 : decode cX8_paint 34 = .ok (.iconst 4, 1) := by decide +kernel
theorem dX8_paint_35 : decode cX8_paint 35 = .ok (.iload_n 1, 1) := by decide +kernel
theorem dX8_paint_36 : decode cX8_paint 36 = .ok (.imul, 1) := by decide +kernel
theorem dX8_paint_37 : decode cX8_paint 37 = .ok (.iadd, 1) := by decide +kernel
theorem dX8_paint_38 : decode cX8_paint 38 = .ok (.iload_n 2, 1) := by decide +kernel
theorem dX8_paint_39 : decode cX8_paint 39 = .ok (.iadd, 1) := by decide +kernel
theorem dX8_paint_40 : decode cX8_paint 40 = .ok (.iaload, 1) := by decide +kernel
theorem dX8_paint_41 : decode cX8_paint 41 = .ok (.istore 4, 2) := by decide +kernel
theorem dX8_paint_43 : decode cX8_paint 43 = .ok (.aload_n 0, 1) := by decide +kernel
theorem dX8_paint_44 : decode cX8_paint 44 = .ok (.getfield 13, 3) := by decide +kernel
theorem dX8_paint_47 : decode cX8_paint 47 = .ok (.bipush 20, 2) := by decide +kernel
theorem dX8_paint_49 : decode cX8_paint 49 = .ok (.iconst 4, 1) := by decide +kernel
theorem dX8_paint_50 : decode cX8_paint 50 = .ok (.iload_n 1, 1) := by decide +kernel
theorem dX8_paint_51 : decode cX8_paint 51 = .ok (.imul, 1) := by decide +kernel
theorem dX8_paint_52 : decode cX8_paint 52 = .ok (.iadd, 1) := by decide +kernel
theorem dX8_paint_53 : decode cX8_paint 53 = .ok (.iload_n 2, 1) := by decide +kernel
theorem dX8_paint_54 : decode cX8_paint 54 = .ok (.iadd, 1) := by decide +kernel
theorem dX8_paint_55 : decode cX8_paint 55 = .ok (.iload_n 3, 1) := by decide +kernel
theorem dX8_paint_56 : decode cX8_paint 56 = .ok (.iastore, 1) := by decide +kernel
theorem dX8_paint_57 : decode cX8_paint 57 = .ok (.iload 4, 2) := by decide +kernel
theorem dX8_paint_59 : decode cX8_paint 59 = .ok (.ireturn, 1) := by decide +kernel
theorem dX8_shift_0 : decode cX8_shift 0 = .ok (.iload_n 1, 1) := by decide +kernel
theorem dX8_shift_1 : decode cX8_shift 1 = .ok (.invokestatic 177, 3) := by decide +kernel
theorem dX8_shift_4 : decode cX8_shift 4 = .ok (.ifCond .ne 6, 3) := by decide +kernel
theorem dX8_shift_7 : decode cX8_shift 7 = .ok (.bipush (-2), 2) := by decide +kernel
theorem dX8_shift_9 : decode cX8_shift 9 = .ok (.ireturn, 1) := by decide +kernel
theorem dX8_shift_10 : decode cX8_shift 10 = .ok (.aload_n 0, 1) := by decide +kernel
theorem dX8_shift_11 : decode cX8_shift 11 = .ok (.invokevirtual 183, 3) := by decide +kernel
theorem dX8_shift_14 : decode cX8_shift 14 = .ok (.aload_n 0, 1) := by decide +kernel
theorem dX8_shift_15 : decode cX8_shift 15 = .ok (.getfield 13, 3) := by decide +kernel
theorem dX8_shift_18 : decode cX8_shift 18 = .ok (.bipush 36, 2) := by decide +kernel
theorem dX8_shift_20 : decode cX8_shift 20 = .ok (.iaload, 1) := by decide +kernel
theorem dX8_shift_21 : decode cX8_shift 21 = .ok (.istore_n 2, 1) := by decide +kernel
theorem dX8_shift_22 : decode cX8_shift 22 = .ok (.aload_n 0, 1) := by decide +kernel
theorem dX8_shift_23 : decode cX8_shift 23 = .ok (.getfield 13, 3) := by decide +kernel
theorem dX8_shift_26 : decode cX8_shift 26 = .ok (.bipush 36, 2) := by decide +kernel
theorem dX8_shift_28 : decode cX8_shift 28 = .ok (.iload_n 1, 1) := by decide +kernel
theorem dX8_shift_29 : decode cX8_shift 29 = .ok (.iastore, 1) := by decide +kernel
theorem dX8_shift_30 : decode cX8_shift 30 = .ok (.iload_n 2, 1) := by decide +kernel
theorem dX8_shift_31 : decode cX8_shift 31 = .ok (.ireturn, 1) := by decide +kernel
theorem dX8_lose_0 : decode cX8_lose 0 = .ok (.iload_n 1, 1) := by decide +kernel
theorem dX8_lose_1 : decode cX8_lose 1 = .ok (.invokestatic 177, 3) := by decide +kernel
theorem dX8_lose_4 : decode cX8_lose 4 = .ok (.ifCond .ne 5, 3) := by decide +kernel
theorem dX8_lose_7 : decode cX8_lose 7 = .ok (.iconst (-1), 1) := by decide +kernel
theorem dX8_lose_8 : decode cX8_lose 8 = .ok (.ireturn, 1) := by decide +kernel
theorem dX8_lose_9 : decode cX8_lose 9 = .ok (.aload_n 0, 1) := by decide +kernel
theorem dX8_lose_10 : decode cX8_lose 10 = .ok (.invokevirtual 183, 3) := by decide +kernel
theorem dX8_lose_13 : decode cX8_lose 13 = .ok (.aload_n 0, 1) := by decide +kernel
theorem dX8_lose_14 : decode cX8_lose 14 = .ok (.getfield 13, 3) := by decide +kernel
theorem dX8_lose_17 : decode cX8_lose 17 = .ok (.bipush 37, 2) := by decide +kernel
theorem dX8_lose_19 : decode cX8_lose 19 = .ok (.dup2, 1) := by decide +kernel
theorem dX8_lose_20 : decode cX8_lose 20 = .ok (.iaload, 1) := by decide +kernel
theorem dX8_lose_21 : decode cX8_lose 21 = .ok (.iconst 1, 1) := by decide +kernel
theorem dX8_lose_22 : decode cX8_lose 22 = .ok (.iload_n 1, 1) := by decide +kernel
theorem dX8_lose_23 : decode cX8_lose 23 = .ok (.ishl, 1) := by decide +kernel
theorem dX8_lose_24 : decode cX8_lose 24 = .ok (.ixor, 1) := by decide +kernel
theorem dX8_lose_25 : decode cX8_lose 25 = .ok (.iastore, 1) := by decide +kernel
theorem dX8_lose_26 : decode cX8_lose 26 = .ok (.aload_n 0, 1) := by decide +kernel
theorem dX8_lose_27 : decode cX8_lose 27 = .ok (.getfield 13, 3) := by decide +kernel
theorem dX8_lose_30 : decode cX8_lose 30 = .ok (.bipush 37, 2) := by decide +kernel
theorem dX8_lose_32 : decode cX8_lose 32 = .ok (.iaload, 1) := by decide +kernel
theorem dX8_lose_33 : decode cX8_lose 33 = .ok (.iload_n 1, 1) := by decide +kernel
theorem dX8_lose_34 : decode cX8_lose 34 = .ok (.invokestatic 114, 3) := by decide +kernel
theorem dX8_lose_37 : decode cX8_lose 37 = .ok (.ifCond .eq 7, 3) := by decide +kernel
theorem dX8_lose_40 : decode cX8_lose 40 = .ok (.iconst 1, 1) := by decide +kernel
theorem dX8_lose_41 : decode cX8_lose 41 = .ok (.goto 4, 3) := by decide +kernel
theorem dX8_lose_44 : decode cX8_lose 44 = .ok (.iconst 0, 1) := by decide +kernel
theorem dX8_lose_45 : decode cX8_lose 45 = .ok (.ireturn, 1) := by decide +kernel
theorem dX8_undo_0 : decode cX8_undo 0 = .ok (.aload_n 0, 1) := by decide +kernel
theorem dX8_undo_1 : decode cX8_undo 1 = .ok (.getfield 99, 3) := by decide +kernel
theorem dX8_undo_4 : decode cX8_undo 4 = .ok (.ifCond .ne 6, 3) := by decide +kernel
theorem dX8_undo_7 : decode cX8_undo 7 = .ok (.bipush (-3), 2) := by decide +kernel
theorem dX8_undo_9 : decode cX8_undo 9 = .ok (.ireturn, 1) := by decide +kernel
theorem dX8_undo_10 : decode cX8_undo 10 = .ok (.aload_n 0, 1) := by decide +kernel
theorem dX8_undo_11 : decode cX8_undo 11 = .ok (.dup, 1) := by decide +kernel
theorem dX8_undo_12 : decode cX8_undo 12 = .ok (.getfield 99, 3) := by decide +kernel
theorem dX8_undo_15 : decode cX8_undo 15 = .ok (.iconst 1, 1) := by decide +kernel
theorem dX8_undo_16 : decode cX8_undo 16 = .ok (.isub, 1) := by decide +kernel
theorem dX8_undo_17 : decode cX8_undo 17 = .ok (.putfield 99, 3) := by decide +kernel
theorem dX8_undo_20 : decode cX8_undo 20 = .ok (.aload_n 0, 1) := by decide +kernel
theorem dX8_undo_21 : decode cX8_undo 21 = .ok (.aload_n 0, 1) := by decide +kernel
theorem dX8_undo_22 : decode cX8_undo 22 = .ok (.getfield 180, 3) := by decide +kernel
theorem dX8_undo_25 : decode cX8_undo 25 = .ok (.bipush 14, 2) := by decide +kernel
theorem dX8_undo_27 : decode cX8_undo 27 = .ok (.iadd, 1) := by decide +kernel
theorem dX8_undo_28 : decode cX8_undo 28 = .ok (.iconst 1, 1) := by decide +kernel
theorem dX8_undo_29 : decode cX8_undo 29 = .ok (.isub, 1) := by decide +kernel
theorem dX8_undo_30 : decode cX8_undo 30 = .ok (.bipush 14, 2) := by decide +kernel
theorem dX8_undo_32 : decode cX8_undo 32 = .ok (.irem, 1) := by decide +kernel
theorem dX8_undo_33 : decode cX8_undo 33 = .ok (.putfield 180, 3) := by decide +kernel
theorem dX8_undo_36 : decode cX8_undo 36 = .ok (.iconst 0, 1) := by decide +kernel
theorem dX8_undo_37 : decode cX8_undo 37 = .ok (.istore_n 1, 1) := by decide +kernel
theorem dX8_undo_38 : decode cX8_undo 38 = .ok (.iload_n 1, 1) := by decide +kernel
theorem dX8_undo_39 : decode cX8_undo 39 = .ok (.bipush 38, 2) := by decide +kernel
theorem dX8_undo_41 : decode cX8_undo 41 = .ok (.if_icmp .ge 29, 3) := by decide +kernel
theorem dX8_undo_44 : decode cX8_undo 44 = .ok (.aload_n 0, 1) := by decide +kernel
theorem dX8_undo_45 : decode cX8_undo 45 = .ok (.getfield 13, 3) := by decide +kernel
theorem dX8_undo_48 : decode cX8_undo 48 = .ok (.iload_n 1, 1) := by decide +kernel
theorem dX8_undo_49 : decode cX8_undo 49 = .ok (.aload_n 0, 1) := by decide +kernel
theorem dX8_undo_50 : decode cX8_undo 50 = .ok (.getfield 19, 3) := by decide +kernel
theorem dX8_undo_53 : decode cX8_undo 53 = .ok (.bipush 38, 2) := by decide +kernel
theorem dX8_undo_55 : decode cX8_undo 55 = .ok (.aload_n 0, 1) := by decide +kernel
theorem dX8_undo_56 : decode cX8_undo 56 = .ok (.getfield 180, 3) := by decide +kernel
theorem dX8_undo_59 : decode cX8_undo 59 = .ok (.imul, 1) := by decide +kernel
theorem dX8_undo_60 : decode cX8_undo 60 = .ok (.iload_n 1, 1) := by decide +kernel
theorem dX8_undo_61 : decode cX8_undo 61 = .ok (.iadd, 1) := by decide +kernel
theorem dX8_undo_62 : decode cX8_undo 62 = .ok (.iaload, 1) := by decide +kernel
theorem dX8_undo_63 : decode cX8_undo 63 = .ok (.iastore, 1) := by decide +kernel
theorem dX8_undo_64 : decode cX8_undo 64 = .ok (.iinc 1 1, 3) := by decide +kernel
theorem dX8_undo_67 : decode cX8_undo 67 = .ok (.goto (-29), 3) := by decide +kernel
theorem dX8_undo_70 : decode cX8_undo 70 = .ok (.aload_n 0, 1) := by decide +kernel
theorem dX8_undo_71 : decode cX8_undo 71 = .ok (.getfield 99, 3) := by decide +kernel
theorem dX8_undo_74 : decode cX8_undo 74 = .ok (.ireturn, 1) := by decide +kernel
theorem dX8_miss_0 : decode cX8_miss 0 = .ok (.iload_n 1, 1) := by decide +kernel
theorem dX8_miss_1 : decode cX8_miss 1 = .ok (.i2l, 1) := by decide +kernel
theorem dX8_miss_2 : decode cX8_miss 2 = .ok (.lconst 0, 1) := by decide +kernel
theorem dX8_miss_3 : decode cX8_miss 3 = .ok (.ldc2_w 188, 3) := by decide +kernel
theorem dX8_miss_6 : decode cX8_miss 6 = .ok (.invokestatic 57, 3) := by decide +kernel
theorem dX8_miss_9 : decode cX8_miss 9 = .ok (.ifCond .eq 15, 3) := by decide +kernel
theorem dX8_miss_12 : decode cX8_miss 12 = .ok (.aload_n 0, 1) := by decide +kernel
theorem dX8_miss_13 : decode cX8_miss 13 = .ok (.aload_n 0, 1) := by decide +kernel
theorem dX8_miss_14 : decode cX8_miss 14 = .ok (.getfield 13, 3) := by decide +kernel
theorem dX8_miss_17 : decode cX8_miss 17 = .ok (.iload_n 1, 1) := by decide +kernel
theorem dX8_miss_18 : decode cX8_miss 18 = .ok (.invokevirtual 142, 3) := by decide +kernel
theorem dX8_miss_21 : decode cX8_miss 21 = .ok (.goto 5, 3) := by decide +kernel
theorem dX8_miss_24 : decode cX8_miss 24 = .ok (.bipush (-2), 2) := by decide +kernel
theorem dX8_miss_26 : decode cX8_miss 26 = .ok (.ireturn, 1) := by decide +kernel
theorem dX8_judged_0 : decode cX8_judged 0 = .ok (.iload_n 1, 1) := by decide +kernel
theorem dX8_judged_1 : decode cX8_judged 1 = .ok (.tableswitch 252 1 6 #[39, 67, 90, 153, 188, 222], 39) := by decide +kernel
theorem dX8_judged_40 : decode cX8_judged 40 = .ok (.iload_n 2, 1) := by decide +kernel
theorem dX8_judged_41 : decode cX8_judged 41 = .ok (.ifCond .ne 10, 3) := by decide +kernel
theorem dX8_judged_44 : decode cX8_judged 44 = .ok (.iload_n 3, 1) := by decide +kernel
theorem dX8_judged_45 : decode cX8_judged 45 = .ok (.invokestatic 177, 3) := by decide +kernel
theorem dX8_judged_48 : decode cX8_judged 48 = .ok (.ifCond .ne 5, 3) := by decide +kernel
theorem dX8_judged_51 : decode cX8_judged 51 = .ok (.iconst 0, 1) := by decide +kernel
theorem dX8_judged_52 : decode cX8_judged 52 = .ok (.ireturn, 1) := by decide +kernel
theorem dX8_judged_53 : decode cX8_judged 53 = .ok (.aload_n 0, 1) := by decide +kernel
theorem dX8_judged_54 : decode cX8_judged 54 = .ok (.getfield 16, 3) := by decide +kernel
theorem dX8_judged_57 : decode cX8_judged 57 = .ok (.bipush 37, 2) := by decide +kernel
theorem dX8_judged_59 : decode cX8_judged 59 = .ok (.dup2, 1) := by decide +kernel
theorem dX8_judged_60 : decode cX8_judged 60 = .ok (.iaload, 1) := by decide +kernel
theorem dX8_judged_61 : decode cX8_judged 61 = .ok (.iconst 1, 1) := by decide +kernel
theorem dX8_judged_62 : decode cX8_judged 62 = .ok (.iload_n 3, 1) := by decide +kernel
theorem dX8_judged_63 : decode cX8_judged 63 = .ok (.ishl, 1) := by decide +kernel
theorem dX8_judged_64 : decode cX8_judged 64 = .ok (.ixor, 1) := by decide +kernel
theorem dX8_judged_65 : decode cX8_judged 65 = .ok (.iastore, 1) := by decide +kernel
theorem dX8_judged_66 : decode cX8_judged 66 = .ok (.iconst 1, 1) := by decide +kernel
theorem dX8_judged_67 : decode cX8_judged 67 = .ok (.ireturn, 1) := by decide +kernel
theorem dX8_judged_68 : decode cX8_judged 68 = .ok (.iload_n 2, 1) := by decide +kernel
theorem dX8_judged_69 : decode cX8_judged 69 = .ok (.ifCond .ne 10, 3) := by decide +kernel
theorem dX8_judged_72 : decode cX8_judged 72 = .ok (.iload_n 3, 1) := by decide +kernel
theorem dX8_judged_73 : decode cX8_judged 73 = .ok (.invokestatic 177, 3) := by decide +kernel
theorem dX8_judged_76 : decode cX8_judged 76 = .ok (.ifCond .ne 5, 3) := by decide +kernel
theorem dX8_judged_79 : decode cX8_judged 79 = .ok (.iconst 0, 1) := by decide +kernel
theorem dX8_judged_80 : decode cX8_judged 80 = .ok (.ireturn, 1) := by decide +kernel
theorem dX8_judged_81 : decode cX8_judged 81 = .ok (.aload_n 0, 1) := by decide +kernel
theorem dX8_judged_82 : decode cX8_judged 82 = .ok (.getfield 16, 3) := by decide +kernel
theorem dX8_judged_85 : decode cX8_judged 85 = .ok (.bipush 36, 2) := by decide +kernel
theorem dX8_judged_87 : decode cX8_judged 87 = .ok (.iload_n 3, 1) := by decide +kernel
theorem dX8_judged_88 : decode cX8_judged 88 = .ok (.iastore, 1) := by decide +kernel
theorem dX8_judged_89 : decode cX8_judged 89 = .ok (.iconst 1, 1) := by decide +kernel
theorem dX8_judged_90 : decode cX8_judged 90 = .ok (.ireturn, 1) := by decide +kernel
theorem dX8_judged_91 : decode cX8_judged 91 = .ok (.iload_n 2, 1) := by decide +kernel
theorem dX8_judged_92 : decode cX8_judged 92 = .ok (.invokestatic 177, 3) := by decide +kernel
theorem dX8_judged_95 : decode cX8_judged 95 = .ok (.ifCond .eq 10, 3) := by decide +kernel
theorem dX8_judged_98 : decode cX8_judged 98 = .ok (.iload_n 3, 1) := by decide +kernel
theorem dX8_judged_99 : decode cX8_judged 99 = .ok (.invokestatic 177, 3) := by decide +kernel
theorem dX8_judged_102 : decode cX8_judged 102 = .ok (.ifCond .ne 5, 3) := by decide +kernel
theorem dX8_judged_105 : decode cX8_judged 105 = .ok (.iconst 0, 1) := by decide +kernel
theorem dX8_judged_106 : decode cX8_judged 106 = .ok (.ireturn, 1) := by decide +kernel
theorem dX8_judged_107 : decode cX8_judged 107 = .ok (.aload_n 0, 1) := by decide +kernel
theorem dX8_judged_108 : decode cX8_judged 108 = .ok (.aload_n 0, 1) := by decide +kernel
theorem dX8_judged_109 : decode cX8_judged 109 = .ok (.getfield 16, 3) := by decide +kernel
theorem dX8_judged_112 : decode cX8_judged 112 = .ok (.aload_n 0, 1) := by decide +kernel
theorem dX8_judged_113 : decode cX8_judged 113 = .ok (.getfield 16, 3) := by decide +kernel
theorem dX8_judged_116 : decode cX8_judged 116 = .ok (.bipush 37, 2) := by decide +kernel
theorem dX8_judged_118 : decode cX8_judged 118 = .ok (.iaload, 1) := by decide +kernel
theorem dX8_judged_119 : decode cX8_judged 119 = .ok (.invokevirtual 126, 3) := by decide +kernel
theorem dX8_judged_122 : decode cX8_judged 122 = .ok (.aload_n 0, 1) := by decide +kernel
theorem dX8_judged_123 : decode cX8_judged 123 = .ok (.getfield 35, 3) := by decide +kernel
theorem dX8_judged_126 : decode cX8_judged 126 = .ok (.iconst 4, 1) := by decide +kernel
theorem dX8_judged_127 : decode cX8_judged 127 = .ok (.iload_n 2, 1) := by decide +kernel
theorem dX8_judged_128 : decode cX8_judged 128 = .ok (.imul, 1) := by decide +kernel
theorem dX8_judged_129 : decode cX8_judged 129 = .ok (.iload_n 3, 1) := by decide +kernel
theorem dX8_judged_130 : decode cX8_judged 130 = .ok (.iadd, 1) := by decide +kernel
theorem dX8_judged_131 : decode cX8_judged 131 = .ok (.iaload, 1) := by decide +kernel
theorem dX8_judged_132 : decode cX8_judged 132 = .ok (.aload_n 0, 1) := by decide +kernel
theorem dX8_judged_133 : decode cX8_judged 133 = .ok (.getfield 16, 3) := by decide +kernel
theorem dX8_judged_136 : decode cX8_judged 136 = .ok (.bipush 20, 2) := by decide +kernel
theorem dX8_judged_138 : decode cX8_judged 138 = .ok (.iconst 4, 1) := by decide +kernel
theorem dX8_judged_139 : decode cX8_judged 139 = .ok (.iload_n 2, 1) := by decide +kernel
theorem dX8_judged_140 : decode cX8_judged 140 = .ok (.imul, 1) := by decide +kernel
theorem dX8_judged_141 : decode cX8_judged 141 = .ok (.iadd, 1) := by decide +kernel
theorem dX8_judged_142 : decode cX8_judged 142 = .ok (.iload_n 3, 1) := by decide +kernel
theorem dX8_judged_143 : decode cX8_judged 143 = .ok (.iadd, 1) := by decide +kernel
theorem dX8_judged_144 : decode cX8_judged 144 = .ok (.iaload, 1) := by decide +kernel
theorem dX8_judged_145 : decode cX8_judged 145 = .ok (.if_icmp .ne 7, 3) := by decide +kernel
theorem dX8_judged_148 : decode cX8_judged 148 = .ok (.iconst 1, 1) := by decide +kernel
theorem dX8_judged_149 : decode cX8_judged 149 = .ok (.goto 4, 3) := by decide +kernel
theorem dX8_judged_152 : decode cX8_judged 152 = .ok (.iconst 0, 1) := by decide +kernel
theorem dX8_judged_153 : decode cX8_judged 153 = .ok (.ireturn, 1) := by decide +kernel
theorem dX8_judged_154 : decode cX8_judged 154 = .ok (.iload_n 2, 1) := by decide +kernel
theorem dX8_judged_155 : decode cX8_judged 155 = .ok (.ifCond .ne 10, 3) := by decide +kernel
theorem dX8_judged_158 : decode cX8_judged 158 = .ok (.iload_n 3, 1) := by decide +kernel
theorem dX8_judged_159 : decode cX8_judged 159 = .ok (.invokestatic 177, 3) := by decide +kernel
theorem dX8_judged_162 : decode cX8_judged 162 = .ok (.ifCond .ne 5, 3) := by decide +kernel
theorem dX8_judged_165 : decode cX8_judged 165 = .ok (.iconst 0, 1) := by decide +kernel
theorem dX8_judged_166 : decode cX8_judged 166 = .ok (.ireturn, 1) := by decide +kernel
theorem dX8_judged_167 : decode cX8_judged 167 = .ok (.aload_n 0, 1) := by decide +kernel
theorem dX8_judged_168 : decode cX8_judged 168 = .ok (.aload_n 0, 1) := by decide +kernel
theorem dX8_judged_169 : decode cX8_judged 169 = .ok (.getfield 16, 3) := by decide +kernel
theorem dX8_judged_172 : decode cX8_judged 172 = .ok (.aload_n 0, 1) := by decide +kernel
theorem dX8_judged_173 : decode cX8_judged 173 = .ok (.getfield 16, 3) := by decide +kernel
theorem dX8_judged_176 : decode cX8_judged 176 = .ok (.bipush 37, 2) := by decide +kernel
theorem dX8_judged_178 : decode cX8_judged 178 = .ok (.iaload, 1) := by decide +kernel
theorem dX8_judged_179 : decode cX8_judged 179 = .ok (.invokevirtual 126, 3) := by decide +kernel
theorem dX8_judged_182 : decode cX8_judged 182 = .ok (.aload_n 0, 1) := by decide +kernel
theorem dX8_judged_183 : decode cX8_judged 183 = .ok (.getfield 38, 3) := by decide +kernel
theorem dX8_judged_186 : decode cX8_judged 186 = .ok (.iload_n 3, 1) := by decide +kernel
theorem dX8_judged_187 : decode cX8_judged 187 = .ok (.baload, 1) := by decide +kernel
theorem dX8_judged_188 : decode cX8_judged 188 = .ok (.ireturn, 1) := by decide +kernel
theorem dX8_judged_189 : decode cX8_judged 189 = .ok (.aload_n 0, 1) := by decide +kernel
theorem dX8_judged_190 : decode cX8_judged 190 = .ok (.iload_n 2, 1) := by decide +kernel
theorem dX8_judged_191 : decode cX8_judged 191 = .ok (.invokevirtual 164, 3) := by decide +kernel
theorem dX8_judged_194 : decode cX8_judged 194 = .ok (.ifCond .eq 16, 3) := by decide +kernel
theorem dX8_judged_197 : decode cX8_judged 197 = .ok (.aload_n 0, 1) := by decide +kernel
theorem dX8_judged_198 : decode cX8_judged 198 = .ok (.iload_n 3, 1) := by decide +kernel
theorem dX8_judged_199 : decode cX8_judged 199 = .ok (.invokevirtual 164, 3) := by decide +kernel
theorem dX8_judged_202 : decode cX8_judged 202 = .ok (.ifCond .eq 8, 3) := by decide +kernel
theorem dX8_judged_205 : decode cX8_judged 205 = .ok (.iload_n 2, 1) := by decide +kernel
theorem dX8_judged_206 : decode cX8_judged 206 = .ok (.iload_n 3, 1) := by decide +kernel
theorem dX8_judged_207 : decode cX8_judged 207 = .ok (.if_icmp .ne 5, 3) := by decide +kernel
theorem dX8_judged_210 : decode cX8_judged 210 = .ok (.iconst 0, 1) := by decide +kernel
theorem dX8_judged_211 : decode cX8_judged 211 = .ok (.ireturn, 1) := by decide +kernel
theorem dX8_judged_212 : decode cX8_judged 212 = .ok (.aload_n 0, 1) := by decide +kernel
theorem dX8_judged_213 : decode cX8_judged 213 = .ok (.getfield 16, 3) := by decide +kernel
theorem dX8_judged_216 : decode cX8_judged 216 = .ok (.iload_n 2, 1) := by decide +kernel
theorem dX8_judged_217 : decode cX8_judged 217 = .ok (.iload_n 3, 1) := by decide +kernel
theorem dX8_judged_218 : decode cX8_judged 218 = .ok (.invokestatic 138, 3) := by decide +kernel
theorem dX8_judged_221 : decode cX8_judged 221 = .ok (.iconst 1, 1) := by decide +kernel
theorem dX8_judged_222 : decode cX8_judged 222 = .ok (.ireturn, 1) := by decide +kernel
theorem dX8_judged_223 : decode cX8_judged 223 = .ok (.aload_n 0, 1) := by decide +kernel
theorem dX8_judged_224 : decode cX8_judged 224 = .ok (.aload_n 0, 1) := by decide +kernel
theorem dX8_judged_225 : decode cX8_judged 225 = .ok (.getfield 16, 3) := by decide +kernel
theorem dX8_judged_228 : decode cX8_judged 228 = .ok (.aload_n 0, 1) := by decide +kernel
theorem dX8_judged_229 : decode cX8_judged 229 = .ok (.getfield 16, 3) := by decide +kernel
theorem dX8_judged_232 : decode cX8_judged 232 = .ok (.bipush 37, 2) := by decide +kernel
theorem dX8_judged_234 : decode cX8_judged 234 = .ok (.iaload, 1) := by decide +kernel
theorem dX8_judged_235 : decode cX8_judged 235 = .ok (.invokevirtual 142, 3) := by decide +kernel
theorem dX8_judged_238 : decode cX8_judged 238 = .ok (.bipush 10, 2) := by decide +kernel
theorem dX8_judged_240 : decode cX8_judged 240 = .ok (.iload_n 2, 1) := by decide +kernel
theorem dX8_judged_241 : decode cX8_judged 241 = .ok (.imul, 1) := by decide +kernel
theorem dX8_judged_242 : decode cX8_judged 242 = .ok (.iload_n 3, 1) := by decide +kernel
theorem dX8_judged_243 : decode cX8_judged 243 = .ok (.iadd, 1) := by decide +kernel
theorem dX8_judged_244 : decode cX8_judged 244 = .ok (.if_icmp .gt 7, 3) := by decide +kernel
theorem dX8_judged_247 : decode cX8_judged 247 = .ok (.iconst 1, 1) := by decide +kernel
theorem dX8_judged_248 : decode cX8_judged 248 = .ok (.goto 4, 3) := by decide +kernel
theorem dX8_judged_251 : decode cX8_judged 251 = .ok (.iconst 0, 1) := by decide +kernel
theorem dX8_judged_252 : decode cX8_judged 252 = .ok (.ireturn, 1) := by decide +kernel
theorem dX8_judged_253 : decode cX8_judged 253 = .ok (.iconst 0, 1) := by decide +kernel
theorem dX8_judged_254 : decode cX8_judged 254 = .ok (.ireturn, 1) := by decide +kernel
theorem dX8_thousands_0 : decode cX8_thousands 0 = .ok (.lconst 1, 1) := by decide +kernel
theorem dX8_thousands_1 : decode cX8_thousands 1 = .ok (.lstore_n 1, 1) := by decide +kernel
theorem dX8_thousands_2 : decode cX8_thousands 2 = .ok (.iconst 0, 1) := by decide +kernel
theorem dX8_thousands_3 : decode cX8_thousands 3 = .ok (.istore_n 3, 1) := by decide +kernel
theorem dX8_thousands_4 : decode cX8_thousands 4 = .ok (.iload_n 3, 1) := by decide +kernel
theorem dX8_thousands_5 : decode cX8_thousands 5 = .ok (.iload_n 0, 1) := by decide +kernel
theorem dX8_thousands_6 : decode cX8_thousands 6 = .ok (.if_icmp .ge 15, 3) := by decide +kernel
theorem dX8_thousands_9 : decode cX8_thousands 9 = .ok (.lload_n 1, 1) := by decide +kernel
theorem dX8_thousands_10 : decode cX8_thousands 10 = .ok (.ldc2_w 190, 3) := by decide +kernel
theorem dX8_thousands_13 : decode cX8_thousands 13 = .ok (.lmul, 1) := by decide +kernel
theorem dX8_thousands_14 : decode cX8_thousands 14 = .ok (.lstore_n 1, 1) := by decide +kernel
theorem dX8_thousands_15 : decode cX8_thousands 15 = .ok (.iinc 3 1, 3) := by decide +kernel
theorem dX8_thousands_18 : decode cX8_thousands 18 = .ok (.goto (-14), 3) := by decide +kernel
theorem dX8_thousands_21 : decode cX8_thousands 21 = .ok (.lload_n 1, 1) := by decide +kernel
theorem dX8_thousands_22 : decode cX8_thousands 22 = .ok (.lreturn, 1) := by decide +kernel
theorem dX8_judge_0 : decode cX8_judge 0 = .ok (.iload_n 1, 1) := by decide +kernel
theorem dX8_judge_1 : decode cX8_judge 1 = .ok (.i2l, 1) := by decide +kernel
theorem dX8_judge_2 : decode cX8_judge 2 = .ok (.lconst 1, 1) := by decide +kernel
theorem dX8_judge_3 : decode cX8_judge 3 = .ok (.ldc2_w 192, 3) := by decide +kernel
theorem dX8_judge_6 : decode cX8_judge 6 = .ok (.invokestatic 57, 3) := by decide +kernel
theorem dX8_judge_9 : decode cX8_judge 9 = .ok (.ifCond .eq 17, 3) := by decide +kernel
theorem dX8_judge_12 : decode cX8_judge 12 = .ok (.lload_n 2, 1) := by decide +kernel
theorem dX8_judge_13 : decode cX8_judge 13 = .ok (.lconst 0, 1) := by decide +kernel
theorem dX8_judge_14 : decode cX8_judge 14 = .ok (.iload_n 1, 1) := by decide +kernel
theorem dX8_judge_15 : decode cX8_judge 15 = .ok (.invokestatic 194, 3) := by decide +kernel
theorem dX8_judge_18 : decode cX8_judge 18 = .ok (.lconst 1, 1) := by decide +kernel
theorem dX8_judge_19 : decode cX8_judge 19 = .ok (.lsub, 1) := by decide +kernel
theorem dX8_judge_20 : decode cX8_judge 20 = .ok (.invokestatic 57, 3) := by decide +kernel
theorem dX8_judge_23 : decode cX8_judge 23 = .ok (.ifCond .ne 6, 3) := by decide +kernel
theorem dX8_judge_26 : decode cX8_judge 26 = .ok (.bipush (-2), 2) := by decide +kernel
theorem dX8_judge_28 : decode cX8_judge 28 = .ok (.ireturn, 1) := by decide +kernel
theorem dX8_judge_29 : decode cX8_judge 29 = .ok (.aload_n 0, 1) := by decide +kernel
theorem dX8_judge_30 : decode cX8_judge 30 = .ok (.getfield 13, 3) := by decide +kernel
theorem dX8_judge_33 : decode cX8_judge 33 = .ok (.aload_n 0, 1) := by decide +kernel
theorem dX8_judge_34 : decode cX8_judge 34 = .ok (.getfield 16, 3) := by decide +kernel
theorem dX8_judge_37 : decode cX8_judge 37 = .ok (.invokestatic 134, 3) := by decide +kernel
theorem dX8_judge_40 : decode cX8_judge 40 = .ok (.iconst 0, 1) := by decide +kernel
theorem dX8_judge_41 : decode cX8_judge 41 = .ok (.istore 4, 2) := by decide +kernel
theorem dX8_judge_43 : decode cX8_judge 43 = .ok (.iload 4, 2) := by decide +kernel
theorem dX8_judge_45 : decode cX8_judge 45 = .ok (.iload_n 1, 1) := by decide +kernel
theorem dX8_judge_46 : decode cX8_judge 46 = .ok (.if_icmp .ge 55, 3) := by decide +kernel
theorem dX8_judge_49 : decode cX8_judge 49 = .ok (.lload_n 2, 1) := by decide +kernel
theorem dX8_judge_50 : decode cX8_judge 50 = .ok (.iload_n 1, 1) := by decide +kernel
theorem dX8_judge_51 : decode cX8_judge 51 = .ok (.iconst 1, 1) := by decide +kernel
theorem dX8_judge_52 : decode cX8_judge 52 = .ok (.isub, 1) := by decide +kernel
theorem dX8_judge_53 : decode cX8_judge 53 = .ok (.iload 4, 2) := by decide +kernel
theorem dX8_judge_55 : decode cX8_judge 55 = .ok (.isub, 1) := by decide +kernel
theorem dX8_judge_56 : decode cX8_judge 56 = .ok (.invokestatic 194, 3) := by decide +kernel
theorem dX8_judge_59 : decode cX8_judge 59 = .ok (.ldiv, 1) := by decide +kernel
theorem dX8_judge_60 : decode cX8_judge 60 = .ok (.ldc2_w 190, 3) := by decide +kernel
theorem dX8_judge_63 : decode cX8_judge 63 = .ok (.lrem, 1) := by decide +kernel
theorem dX8_judge_64 : decode cX8_judge 64 = .ok (.l2i, 1) := by decide +kernel
theorem dX8_judge_65 : decode cX8_judge 65 = .ok (.istore 5, 2) := by decide +kernel
theorem dX8_judge_67 : decode cX8_judge 67 = .ok (.aload_n 0, 1) := by decide +kernel
theorem dX8_judge_68 : decode cX8_judge 68 = .ok (.iload 5, 2) := by decide +kernel
theorem dX8_judge_70 : decode cX8_judge 70 = .ok (.bipush 100, 2) := by decide +kernel
theorem dX8_judge_72 : decode cX8_judge 72 = .ok (.idiv, 1) := by decide +kernel
theorem dX8_judge_73 : decode cX8_judge 73 = .ok (.iload 5, 2) := by decide +kernel
theorem dX8_judge_75 : decode cX8_judge 75 = .ok (.bipush 10, 2) := by decide +kernel
theorem dX8_judge_77 : decode cX8_judge 77 = .ok (.idiv, 1) := by decide +kernel
theorem dX8_judge_78 : decode cX8_judge 78 = .ok (.bipush 10, 2) := by decide +kernel
theorem dX8_judge_80 : decode cX8_judge 80 = .ok (.irem, 1) := by decide +kernel
theorem dX8_judge_81 : decode cX8_judge 81 = .ok (.iload 5, 2) := by decide +kernel
theorem dX8_judge_83 : decode cX8_judge 83 = .ok (.bipush 10, 2) := by decide +kernel
theorem dX8_judge_85 : decode cX8_judge 85 = .ok (.irem, 1) := by decide +kernel
theorem dX8_judge_86 : decode cX8_judge 86 = .ok (.invokevirtual 198, 3) := by decide +kernel
theorem dX8_judge_89 : decode cX8_judge 89 = .ok (.ifCond .ne 6, 3) := by decide +kernel
theorem dX8_judge_92 : decode cX8_judge 92 = .ok (.iload 4, 2) := by decide +kernel
theorem dX8_judge_94 : decode cX8_judge 94 = .ok (.ireturn, 1) := by decide +kernel
theorem dX8_judge_95 : decode cX8_judge 95 = .ok (.iinc 4 1, 3) := by decide +kernel
theorem dX8_judge_98 : decode cX8_judge 98 = .ok (.goto (-55), 3) := by decide +kernel
theorem dX8_judge_101 : decode cX8_judge 101 = .ok (.bipush (-9), 2) := by decide +kernel
theorem dX8_judge_103 : decode cX8_judge 103 = .ok (.ireturn, 1) := by decide +kernel
theorem dX8_see_0 : decode cX8_see 0 = .ok (.iload_n 1, 1) := by decide +kernel
theorem dX8_see_1 : decode cX8_see 1 = .ok (.invokestatic 177, 3) := by decide +kernel
theorem dX8_see_4 : decode cX8_see 4 = .ok (.ifCond .eq 10, 3) := by decide +kernel
theorem dX8_see_7 : decode cX8_see 7 = .ok (.iload_n 2, 1) := by decide +kernel
theorem dX8_see_8 : decode cX8_see 8 = .ok (.invokestatic 177, 3) := by decide +kernel
theorem dX8_see_11 : decode cX8_see 11 = .ok (.ifCond .ne 5, 3) := by decide +kernel
theorem dX8_see_14 : decode cX8_see 14 = .ok (.iconst (-1), 1) := by decide +kernel
theorem dX8_see_15 : decode cX8_see 15 = .ok (.ireturn, 1) := by decide +kernel
theorem dX8_see_16 : decode cX8_see 16 = .ok (.iload_n 3, 1) := by decide +kernel
theorem dX8_see_17 : decode cX8_see 17 = .ok (.i2l, 1) := by decide +kernel
theorem dX8_see_18 : decode cX8_see 18 = .ok (.lconst 0, 1) := by decide +kernel
theorem dX8_see_19 : decode cX8_see 19 = .ok (.ldc2_w 202, 3) := by decide +kernel
theorem dX8_see_22 : decode cX8_see 22 = .ok (.invokestatic 57, 3) := by decide +kernel
theorem dX8_see_25 : decode cX8_see 25 = .ok (.ifCond .ne 6, 3) := by decide +kernel
theorem dX8_see_28 : decode cX8_see 28 = .ok (.bipush (-2), 2) := by decide +kernel
theorem dX8_see_30 : decode cX8_see 30 = .ok (.ireturn, 1) := by decide +kernel
theorem dX8_see_31 : decode cX8_see 31 = .ok (.aload_n 0, 1) := by decide +kernel
theorem dX8_see_32 : decode cX8_see 32 = .ok (.getfield 161, 3) := by decide +kernel
theorem dX8_see_35 : decode cX8_see 35 = .ok (.bipush 6, 2) := by decide +kernel
theorem dX8_see_37 : decode cX8_see 37 = .ok (.if_icmp .ne 6, 3) := by decide +kernel
theorem dX8_see_40 : decode cX8_see 40 = .ok (.bipush (-4), 2) := by decide +kernel
theorem dX8_see_42 : decode cX8_see 42 = .ok (.ireturn, 1) := by decide +kernel
theorem dX8_see_43 : decode cX8_see 43 = .ok (.aload_n 0, 1) := by decide +kernel
theorem dX8_see_44 : decode cX8_see 44 = .ok (.getfield 29, 3) := by decide +kernel
theorem dX8_see_47 : decode cX8_see 47 = .ok (.aload_n 0, 1) := by decide +kernel
theorem dX8_see_48 : decode cX8_see 48 = .ok (.getfield 161, 3) := by decide +kernel
theorem dX8_see_51 : decode cX8_see 51 = .ok (.iconst 4, 1) := by decide +kernel
theorem dX8_see_52 : decode cX8_see 52 = .ok (.iload_n 1, 1) := by decide +kernel
theorem dX8_see_53 : decode cX8_see 53 = .ok (.imul, 1) := by decide +kernel
theorem dX8_see_54 : decode cX8_see 54 = .ok (.iload_n 2, 1) := by decide +kernel
theorem dX8_see_55 : decode cX8_see 55 = .ok (.iadd, 1) := by decide +kernel
theorem dX8_see_56 : decode cX8_see 56 = .ok (.iastore, 1) := by decide +kernel
theorem dX8_see_57 : decode cX8_see 57 = .ok (.aload_n 0, 1) := by decide +kernel
theorem dX8_see_58 : decode cX8_see 58 = .ok (.getfield 32, 3) := by decide +kernel
theorem dX8_see_61 : decode cX8_see 61 = .ok (.aload_n 0, 1) := by decide +kernel
theorem dX8_see_62 : decode cX8_see 62 = .ok (.getfield 161, 3) := by decide +kernel
theorem dX8_see_65 : decode cX8_see 65 = .ok (.iload_n 3, 1) := by decide +kernel
theorem dX8_see_66 : decode cX8_see 66 = .ok (.iastore, 1) := by decide +kernel
theorem dX8_see_67 : decode cX8_see 67 = .ok (.aload_n 0, 1) := by decide +kernel
theorem dX8_see_68 : decode cX8_see 68 = .ok (.dup, 1) := by decide +kernel
theorem dX8_see_69 : decode cX8_see 69 = .ok (.getfield 161, 3) := by decide +kernel
theorem dX8_see_72 : decode cX8_see 72 = .ok (.iconst 1, 1) := by decide +kernel
theorem dX8_see_73 : decode cX8_see 73 = .ok (.iadd, 1) := by decide +kernel
theorem dX8_see_74 : decode cX8_see 74 = .ok (.putfield 161, 3) := by decide +kernel
theorem dX8_see_77 : decode cX8_see 77 = .ok (.aload_n 0, 1) := by decide +kernel
theorem dX8_see_78 : decode cX8_see 78 = .ok (.getfield 161, 3) := by decide +kernel
theorem dX8_see_81 : decode cX8_see 81 = .ok (.ireturn, 1) := by decide +kernel
theorem dX8_unsee_0 : decode cX8_unsee 0 = .ok (.aload_n 0, 1) := by decide +kernel
theorem dX8_unsee_1 : decode cX8_unsee 1 = .ok (.getfield 161, 3) := by decide +kernel
theorem dX8_unsee_4 : decode cX8_unsee 4 = .ok (.istore_n 1, 1) := by decide +kernel
theorem dX8_unsee_5 : decode cX8_unsee 5 = .ok (.aload_n 0, 1) := by decide +kernel
theorem dX8_unsee_6 : decode cX8_unsee 6 = .ok (.iconst 0, 1) := by decide +kernel
theorem dX8_unsee_7 : decode cX8_unsee 7 = .ok (.putfield 161, 3) := by decide +kernel
theorem dX8_unsee_10 : decode cX8_unsee 10 = .ok (.iload_n 1, 1) := by decide +kernel
theorem dX8_unsee_11 : decode cX8_unsee 11 = .ok (.ireturn, 1) := by decide +kernel
theorem dX8_which_0 : decode cX8_which 0 = .ok (.iconst 0, 1) := by decide +kernel
theorem dX8_which_1 : decode cX8_which 1 = .ok (.istore_n 1, 1) := by decide +kernel
theorem dX8_which_2 : decode cX8_which 2 = .ok (.iconst 0, 1) := by decide +kernel
theorem dX8_which_3 : decode cX8_which 3 = .ok (.istore_n 2, 1) := by decide +kernel
theorem dX8_which_4 : decode cX8_which 4 = .ok (.iload_n 2, 1) := by decide +kernel
theorem dX8_which_5 : decode cX8_which 5 = .ok (.bipush 16, 2) := by decide +kernel
theorem dX8_which_7 : decode cX8_which 7 = .ok (.if_icmp .ge 84, 3) := by decide +kernel
theorem dX8_which_10 : decode cX8_which 10 = .ok (.aload_n 0, 1) := by decide +kernel
theorem dX8_which_11 : decode cX8_which 11 = .ok (.aload_n 0, 1) := by decide +kernel
theorem dX8_which_12 : decode cX8_which 12 = .ok (.getfield 13, 3) := by decide +kernel
theorem dX8_which_15 : decode cX8_which 15 = .ok (.iload_n 2, 1) := by decide +kernel
theorem dX8_which_16 : decode cX8_which 16 = .ok (.invokevirtual 126, 3) := by decide +kernel
theorem dX8_which_19 : decode cX8_which 19 = .ok (.iconst 1, 1) := by decide +kernel
theorem dX8_which_20 : decode cX8_which 20 = .ok (.istore_n 3, 1) := by decide +kernel
theorem dX8_which_21 : decode cX8_which 21 = .ok (.iconst 0, 1) := by decide +kernel
theorem dX8_which_22 : decode cX8_which 22 = .ok (.istore 4, 2) := by decide +kernel
theorem dX8_which_24 : decode cX8_which 24 = .ok (.iload 4, 2) := by decide +kernel
theorem dX8_which_26 : decode cX8_which 26 = .ok (.aload_n 0, 1) := by decide +kernel
theorem dX8_which_27 : decode cX8_which 27 = .ok (.getfield 161, 3) := by decide +kernel
theorem dX8_which_30 : decode cX8_which 30 = .ok (.if_icmp .ge 41, 3) := by decide +kernel
theorem dX8_which_33 : decode cX8_which 33 = .ok (.iload_n 3, 1) := by decide +kernel
theorem dX8_which_34 : decode cX8_which 34 = .ok (.ifCond .eq 29, 3) := by decide +kernel
theorem dX8_which_37 : decode cX8_which 37 = .ok (.aload_n 0, 1) := by decide +kernel
theorem dX8_which_38 : decode cX8_which 38 = .ok (.getfield 35, 3) := by decide +kernel
theorem dX8_which_41 : decode cX8_which 41 = .ok (.aload_n 0, 1) := by decide +kernel
theorem dX8_which_42 : decode cX8_which 42 = .ok (.getfield 29, 3) := by decide +kernel
theorem dX8_which_45 : decode cX8_which 45 = .ok (.iload 4, 2) := by decide +kernel
theorem dX8_which_47 : decode cX8_which 47 = .ok (.iaload, 1) := by decide +kernel
theorem dX8_which_48 : decode cX8_which 48 = .ok (.iaload, 1) := by decide +kernel
theorem dX8_which_49 : decode cX8_which 49 = .ok (.aload_n 0, 1) := by decide +kernel
theorem dX8_which_50 : decode cX8_which 50 = .ok (.getfield 32, 3) := by decide +kernel
theorem dX8_which_53 : decode cX8_which 53 = .ok (.iload 4, 2) := by decide +kernel
theorem dX8_which_55 : decode cX8_which 55 = .ok (.iaload, 1) := by decide +kernel
theorem dX8_which_56 : decode cX8_which 56 = .ok (.if_icmp .ne 7, 3) := by decide +kernel
theorem dX8_which_59 : decode cX8_which 59 = .ok (.iconst 1, 1) := by decide +kernel
theorem dX8_which_60 : decode cX8_which 60 = .ok (.goto 4, 3) := by decide +kernel
theorem dX8_which_63 : decode cX8_which 63 = .ok (.iconst 0, 1) := by decide +kernel
theorem dX8_which_64 : decode cX8_which 64 = .ok (.istore_n 3, 1) := by decide +kernel
theorem dX8_which_65 : decode cX8_which 65 = .ok (.iinc 4 1, 3) := by decide +kernel
theorem dX8_which_68 : decode cX8_which 68 = .ok (.goto (-44), 3) := by decide +kernel
theorem dX8_which_71 : decode cX8_which 71 = .ok (.iload_n 1, 1) := by decide +kernel
theorem dX8_which_72 : decode cX8_which 72 = .ok (.iload_n 3, 1) := by decide +kernel
theorem dX8_which_73 : decode cX8_which 73 = .ok (.ifCond .eq 9, 3) := by decide +kernel
theorem dX8_which_76 : decode cX8_which 76 = .ok (.iconst 1, 1) := by decide +kernel
theorem dX8_which_77 : decode cX8_which 77 = .ok (.iload_n 2, 1) := by decide +kernel
theorem dX8_which_78 : decode cX8_which 78 = .ok (.ishl, 1) := by decide +kernel
theorem dX8_which_79 : decode cX8_which 79 = .ok (.goto 4, 3) := by decide +kernel
theorem dX8_which_82 : decode cX8_which 82 = .ok (.iconst 0, 1) := by decide +kernel
theorem dX8_which_83 : decode cX8_which 83 = .ok (.ior, 1) := by decide +kernel
theorem dX8_which_84 : decode cX8_which 84 = .ok (.istore_n 1, 1) := by decide +kernel
theorem dX8_which_85 : decode cX8_which 85 = .ok (.iinc 2 1, 3) := by decide +kernel
theorem dX8_which_88 : decode cX8_which 88 = .ok (.goto (-84), 3) := by decide +kernel
theorem dX8_which_91 : decode cX8_which 91 = .ok (.iload_n 1, 1) := by decide +kernel
theorem dX8_which_92 : decode cX8_which 92 = .ok (.ireturn, 1) := by decide +kernel
theorem dX8_share_0 : decode cX8_share 0 = .ok (.iload_n 1, 1) := by decide +kernel
theorem dX8_share_1 : decode cX8_share 1 = .ok (.invokestatic 177, 3) := by decide +kernel
theorem dX8_share_4 : decode cX8_share 4 = .ok (.ifCond .ne 5, 3) := by decide +kernel
theorem dX8_share_7 : decode cX8_share 7 = .ok (.iconst (-1), 1) := by decide +kernel
theorem dX8_share_8 : decode cX8_share 8 = .ok (.ireturn, 1) := by decide +kernel
theorem dX8_share_9 : decode cX8_share 9 = .ok (.iconst 0, 1) := by decide +kernel
theorem dX8_share_10 : decode cX8_share 10 = .ok (.istore_n 3, 1) := by decide +kernel
theorem dX8_share_11 : decode cX8_share 11 = .ok (.iload_n 3, 1) := by decide +kernel
theorem dX8_share_12 : decode cX8_share 12 = .ok (.bipush 16, 2) := by decide +kernel
theorem dX8_share_14 : decode cX8_share 14 = .ok (.if_icmp .ge 29, 3) := by decide +kernel
theorem dX8_share_17 : decode cX8_share 17 = .ok (.aload_n 0, 1) := by decide +kernel
theorem dX8_share_18 : decode cX8_share 18 = .ok (.getfield 41, 3) := by decide +kernel
theorem dX8_share_21 : decode cX8_share 21 = .ok (.iload_n 3, 1) := by decide +kernel
theorem dX8_share_22 : decode cX8_share 22 = .ok (.aload_n 0, 1) := by decide +kernel
theorem dX8_share_23 : decode cX8_share 23 = .ok (.aload_n 0, 1) := by decide +kernel
theorem dX8_share_24 : decode cX8_share 24 = .ok (.getfield 13, 3) := by decide +kernel
theorem dX8_share_27 : decode cX8_share 27 = .ok (.bipush 15, 2) := by decide +kernel
theorem dX8_share_29 : decode cX8_share 29 = .ok (.iload_n 3, 1) := by decide +kernel
theorem dX8_share_30 : decode cX8_share 30 = .ok (.iconst (-1), 1) := by decide +kernel
theorem dX8_share_31 : decode cX8_share 31 = .ok (.ixor, 1) := by decide +kernel
theorem dX8_share_32 : decode cX8_share 32 = .ok (.iand, 1) := by decide +kernel
theorem dX8_share_33 : decode cX8_share 33 = .ok (.invokevirtual 142, 3) := by decide +kernel
theorem dX8_share_36 : decode cX8_share 36 = .ok (.iastore, 1) := by decide +kernel
theorem dX8_share_37 : decode cX8_share 37 = .ok (.iinc 3 1, 3) := by decide +kernel
theorem dX8_share_40 : decode cX8_share 40 = .ok (.goto (-29), 3) := by decide +kernel
theorem dX8_share_43 : decode cX8_share 43 = .ok (.iconst 0, 1) := by decide +kernel
theorem dX8_share_44 : decode cX8_share 44 = .ok (.istore_n 3, 1) := by decide +kernel
theorem dX8_share_45 : decode cX8_share 45 = .ok (.iconst 0, 1) := by decide +kernel
theorem dX8_share_46 : decode cX8_share 46 = .ok (.istore 4, 2) := by decide +kernel
theorem dX8_share_48 : decode cX8_share 48 = .ok (.iload 4, 2) := by decide +kernel
theorem dX8_share_50 : decode cX8_share 50 = .ok (.bipush 16, 2) := by decide +kernel
theorem dX8_share_52 : decode cX8_share 52 = .ok (.if_icmp .ge 61, 3) := by decide +kernel
theorem dX8_share_55 : decode cX8_share 55 = .ok (.iload 4, 2) := by decide +kernel
theorem dX8_share_57 : decode cX8_share 57 = .ok (.iload_n 1, 1) := by decide +kernel
theorem dX8_share_58 : decode cX8_share 58 = .ok (.invokestatic 114, 3) := by decide +kernel
theorem dX8_share_61 : decode cX8_share 61 = .ok (.ifCond .ne 46, 3) := by decide +kernel
theorem dX8_share_64 : decode cX8_share 64 = .ok (.iload 4, 2) := by decide +kernel
theorem dX8_share_66 : decode cX8_share 66 = .ok (.invokestatic 204, 3) := by decide +kernel
theorem dX8_share_69 : decode cX8_share 69 = .ok (.istore 5, 2) := by decide +kernel
theorem dX8_share_71 : decode cX8_share 71 = .ok (.iload_n 3, 1) := by decide +kernel
theorem dX8_share_72 : decode cX8_share 72 = .ok (.iload 5, 2) := by decide +kernel
theorem dX8_share_74 : decode cX8_share 74 = .ok (.invokestatic 207, 3) := by decide +kernel
theorem dX8_share_77 : decode cX8_share 77 = .ok (.iconst 3, 1) := by decide +kernel
theorem dX8_share_78 : decode cX8_share 78 = .ok (.iload 5, 2) := by decide +kernel
theorem dX8_share_80 : decode cX8_share 80 = .ok (.isub, 1) := by decide +kernel
theorem dX8_share_81 : decode cX8_share 81 = .ok (.invokestatic 207, 3) := by decide +kernel
theorem dX8_share_84 : decode cX8_share 84 = .ok (.imul, 1) := by decide +kernel
theorem dX8_share_85 : decode cX8_share 85 = .ok (.aload_n 0, 1) := by decide +kernel
theorem dX8_share_86 : decode cX8_share 86 = .ok (.getfield 41, 3) := by decide +kernel
theorem dX8_share_89 : decode cX8_share 89 = .ok (.iload 4, 2) := by decide +kernel
theorem dX8_share_91 : decode cX8_share 91 = .ok (.iaload, 1) := by decide +kernel
theorem dX8_share_92 : decode cX8_share 92 = .ok (.aload_n 0, 1) := by decide +kernel
theorem dX8_share_93 : decode cX8_share 93 = .ok (.getfield 41, 3) := by decide +kernel
theorem dX8_share_96 : decode cX8_share 96 = .ok (.iload 4, 2) := by decide +kernel
theorem dX8_share_98 : decode cX8_share 98 = .ok (.iconst 1, 1) := by decide +kernel
theorem dX8_share_99 : decode cX8_share 99 = .ok (.iload_n 1, 1) := by decide +kernel
theorem dX8_share_100 : decode cX8_share 100 = .ok (.ishl, 1) := by decide +kernel
theorem dX8_share_101 : decode cX8_share 101 = .ok (.ior, 1) := by decide +kernel
theorem dX8_share_102 : decode cX8_share 102 = .ok (.iaload, 1) := by decide +kernel
theorem dX8_share_103 : decode cX8_share 103 = .ok (.isub, 1) := by decide +kernel
theorem dX8_share_104 : decode cX8_share 104 = .ok (.imul, 1) := by decide +kernel
theorem dX8_share_105 : decode cX8_share 105 = .ok (.iadd, 1) := by decide +kernel
theorem dX8_share_106 : decode cX8_share 106 = .ok (.istore_n 3, 1) := by decide +kernel
theorem dX8_share_107 : decode cX8_share 107 = .ok (.iinc 4 1, 3) := by decide +kernel
theorem dX8_share_110 : decode cX8_share 110 = .ok (.goto (-62), 3) := by decide +kernel
theorem dX8_share_113 : decode cX8_share 113 = .ok (.iload_n 3, 1) := by decide +kernel
theorem dX8_share_114 : decode cX8_share 114 = .ok (.bipush 24, 2) := by decide +kernel
theorem dX8_share_116 : decode cX8_share 116 = .ok (.iload_n 2, 1) := by decide +kernel
theorem dX8_share_117 : decode cX8_share 117 = .ok (.invokestatic 210, 3) := by decide +kernel
theorem dX8_share_120 : decode cX8_share 120 = .ok (.ireturn, 1) := by decide +kernel
theorem dX8_chance_0 : decode cX8_chance 0 = .ok (.iload_n 1, 1) := by decide +kernel
theorem dX8_chance_1 : decode cX8_chance 1 = .ok (.i2l, 1) := by decide +kernel
theorem dX8_chance_2 : decode cX8_chance 2 = .ok (.lconst 0, 1) := by decide +kernel
theorem dX8_chance_3 : decode cX8_chance 3 = .ok (.ldc2_w 214, 3) := by decide +kernel
theorem dX8_chance_6 : decode cX8_chance 6 = .ok (.invokestatic 57, 3) := by decide +kernel
theorem dX8_chance_9 : decode cX8_chance 9 = .ok (.ifCond .eq 15, 3) := by decide +kernel
theorem dX8_chance_12 : decode cX8_chance 12 = .ok (.iload_n 2, 1) := by decide +kernel
theorem dX8_chance_13 : decode cX8_chance 13 = .ok (.i2l, 1) := by decide +kernel
theorem dX8_chance_14 : decode cX8_chance 14 = .ok (.lconst 0, 1) := by decide +kernel
theorem dX8_chance_15 : decode cX8_chance 15 = .ok (.ldc2_w 216, 3) := by decide +kernel
theorem dX8_chance_18 : decode cX8_chance 18 = .ok (.invokestatic 57, 3) := by decide +kernel
theorem dX8_chance_21 : decode cX8_chance 21 = .ok (.ifCond .ne 6, 3) := by decide +kernel
theorem dX8_chance_24 : decode cX8_chance 24 = .ok (.bipush (-2), 2) := by decide +kernel
theorem dX8_chance_26 : decode cX8_chance 26 = .ok (.ireturn, 1) := by decide +kernel
theorem dX8_chance_27 : decode cX8_chance 27 = .ok (.iconst 0, 1) := by decide +kernel
theorem dX8_chance_28 : decode cX8_chance 28 = .ok (.istore 4, 2) := by decide +kernel
theorem dX8_chance_30 : decode cX8_chance 30 = .ok (.iconst 0, 1) := by decide +kernel
theorem dX8_chance_31 : decode cX8_chance 31 = .ok (.istore 5, 2) := by decide +kernel
theorem dX8_chance_33 : decode cX8_chance 33 = .ok (.iload 5, 2) := by decide +kernel
theorem dX8_chance_35 : decode cX8_chance 35 = .ok (.bipush 16, 2) := by decide +kernel
theorem dX8_chance_37 : decode cX8_chance 37 = .ok (.if_icmp .ge 56, 3) := by decide +kernel
theorem dX8_chance_40 : decode cX8_chance 40 = .ok (.iload 4, 2) := by decide +kernel
theorem dX8_chance_42 : decode cX8_chance 42 = .ok (.aload_n 0, 1) := by decide +kernel
theorem dX8_chance_43 : decode cX8_chance 43 = .ok (.aload_n 0, 1) := by decide +kernel
theorem dX8_chance_44 : decode cX8_chance 44 = .ok (.getfield 13, 3) := by decide +kernel
theorem dX8_chance_47 : decode cX8_chance 47 = .ok (.iload 5, 2) := by decide +kernel
theorem dX8_chance_49 : decode cX8_chance 49 = .ok (.invokevirtual 142, 3) := by decide +kernel
theorem dX8_chance_52 : decode cX8_chance 52 = .ok (.iload_n 1, 1) := by decide +kernel
theorem dX8_chance_53 : decode cX8_chance 53 = .ok (.if_icmp .gt 30, 3) := by decide +kernel
theorem dX8_chance_56 : decode cX8_chance 56 = .ok (.iload_n 2, 1) := by decide +kernel
theorem dX8_chance_57 : decode cX8_chance 57 = .ok (.iload 5, 2) := by decide +kernel
theorem dX8_chance_59 : decode cX8_chance 59 = .ok (.invokestatic 204, 3) := by decide +kernel
theorem dX8_chance_62 : decode cX8_chance 62 = .ok (.invokestatic 218, 3) := by decide +kernel
theorem dX8_chance_65 : decode cX8_chance 65 = .ok (.bipush 10, 2) := by decide +kernel
theorem dX8_chance_67 : decode cX8_chance 67 = .ok (.iload_n 2, 1) := by decide +kernel
theorem dX8_chance_68 : decode cX8_chance 68 = .ok (.isub, 1) := by decide +kernel
theorem dX8_chance_69 : decode cX8_chance 69 = .ok (.iconst 4, 1) := by decide +kernel
theorem dX8_chance_70 : decode cX8_chance 70 = .ok (.iload 5, 2) := by decide +kernel
theorem dX8_chance_72 : decode cX8_chance 72 = .ok (.invokestatic 204, 3) := by decide +kernel
theorem dX8_chance_75 : decode cX8_chance 75 = .ok (.isub, 1) := by decide +kernel
theorem dX8_chance_76 : decode cX8_chance 76 = .ok (.invokestatic 218, 3) := by decide +kernel
theorem dX8_chance_79 : decode cX8_chance 79 = .ok (.imul, 1) := by decide +kernel
theorem dX8_chance_80 : decode cX8_chance 80 = .ok (.goto 4, 3) := by decide +kernel
theorem dX8_chance_83 : decode cX8_chance 83 = .ok (.iconst 0, 1) := by decide +kernel
theorem dX8_chance_84 : decode cX8_chance 84 = .ok (.iadd, 1) := by decide +kernel
theorem dX8_chance_85 : decode cX8_chance 85 = .ok (.istore 4, 2) := by decide +kernel
theorem dX8_chance_87 : decode cX8_chance 87 = .ok (.iinc 5 1, 3) := by decide +kernel
theorem dX8_chance_90 : decode cX8_chance 90 = .ok (.goto (-57), 3) := by decide +kernel
theorem dX8_chance_93 : decode cX8_chance 93 = .ok (.iload 4, 2) := by decide +kernel
theorem dX8_chance_95 : decode cX8_chance 95 = .ok (.sipush 10000, 3) := by decide +kernel
theorem dX8_chance_98 : decode cX8_chance 98 = .ok (.iload_n 3, 1) := by decide +kernel
theorem dX8_chance_99 : decode cX8_chance 99 = .ok (.invokestatic 210, 3) := by decide +kernel
theorem dX8_chance_102 : decode cX8_chance 102 = .ok (.ireturn, 1) := by decide +kernel
theorem dX8_mean_0 : decode cX8_mean 0 = .ok (.iload_n 1, 1) := by decide +kernel
theorem dX8_mean_1 : decode cX8_mean 1 = .ok (.i2l, 1) := by decide +kernel
theorem dX8_mean_2 : decode cX8_mean 2 = .ok (.lconst 0, 1) := by decide +kernel
theorem dX8_mean_3 : decode cX8_mean 3 = .ok (.ldc2_w 216, 3) := by decide +kernel
theorem dX8_mean_6 : decode cX8_mean 6 = .ok (.invokestatic 57, 3) := by decide +kernel
theorem dX8_mean_9 : decode cX8_mean 9 = .ok (.ifCond .ne 6, 3) := by decide +kernel
theorem dX8_mean_12 : decode cX8_mean 12 = .ok (.bipush (-2), 2) := by decide +kernel
theorem dX8_mean_14 : decode cX8_mean 14 = .ok (.ireturn, 1) := by decide +kernel
theorem dX8_mean_15 : decode cX8_mean 15 = .ok (.iconst 0, 1) := by decide +kernel
theorem dX8_mean_16 : decode cX8_mean 16 = .ok (.istore_n 3, 1) := by decide +kernel
theorem dX8_mean_17 : decode cX8_mean 17 = .ok (.iconst 0, 1) := by decide +kernel
theorem dX8_mean_18 : decode cX8_mean 18 = .ok (.istore 4, 2) := by decide +kernel
theorem dX8_mean_20 : decode cX8_mean 20 = .ok (.iload 4, 2) := by decide +kernel
theorem dX8_mean_22 : decode cX8_mean 22 = .ok (.bipush 16, 2) := by decide +kernel
theorem dX8_mean_24 : decode cX8_mean 24 = .ok (.if_icmp .ge 47, 3) := by decide +kernel
theorem dX8_mean_27 : decode cX8_mean 27 = .ok (.iload_n 3, 1) := by decide +kernel
theorem dX8_mean_28 : decode cX8_mean 28 = .ok (.aload_n 0, 1) := by decide +kernel
theorem dX8_mean_29 : decode cX8_mean 29 = .ok (.aload_n 0, 1) := by decide +kernel
theorem dX8_mean_30 : decode cX8_mean 30 = .ok (.getfield 13, 3) := by decide +kernel
theorem dX8_mean_33 : decode cX8_mean 33 = .ok (.iload 4, 2) := by decide +kernel
theorem dX8_mean_35 : decode cX8_mean 35 = .ok (.invokevirtual 142, 3) := by decide +kernel
theorem dX8_mean_38 : decode cX8_mean 38 = .ok (.iload_n 1, 1) := by decide +kernel
theorem dX8_mean_39 : decode cX8_mean 39 = .ok (.iload 4, 2) := by decide +kernel
theorem dX8_mean_41 : decode cX8_mean 41 = .ok (.invokestatic 204, 3) := by decide +kernel
theorem dX8_mean_44 : decode cX8_mean 44 = .ok (.invokestatic 218, 3) := by decide +kernel
theorem dX8_mean_47 : decode cX8_mean 47 = .ok (.imul, 1) := by decide +kernel
theorem dX8_mean_48 : decode cX8_mean 48 = .ok (.bipush 10, 2) := by decide +kernel
theorem dX8_mean_50 : decode cX8_mean 50 = .ok (.iload_n 1, 1) := by decide +kernel
theorem dX8_mean_51 : decode cX8_mean 51 = .ok (.isub, 1) := by decide +kernel
theorem dX8_mean_52 : decode cX8_mean 52 = .ok (.iconst 4, 1) := by decide +kernel
theorem dX8_mean_53 : decode cX8_mean 53 = .ok (.iload 4, 2) := by decide +kernel
theorem dX8_mean_55 : decode cX8_mean 55 = .ok (.invokestatic 204, 3) := by decide +kernel
theorem dX8_mean_58 : decode cX8_mean 58 = .ok (.isub, 1) := by decide +kernel
theorem dX8_mean_59 : decode cX8_mean 59 = .ok (.invokestatic 218, 3) := by decide +kernel
theorem dX8_mean_62 : decode cX8_mean 62 = .ok (.imul, 1) := by decide +kernel
theorem dX8_mean_63 : decode cX8_mean 63 = .ok (.iadd, 1) := by decide +kernel
theorem dX8_mean_64 : decode cX8_mean 64 = .ok (.istore_n 3, 1) := by decide +kernel
theorem dX8_mean_65 : decode cX8_mean 65 = .ok (.iinc 4 1, 3) := by decide +kernel
theorem dX8_mean_68 : decode cX8_mean 68 = .ok (.goto (-48), 3) := by decide +kernel
theorem dX8_mean_71 : decode cX8_mean 71 = .ok (.iload_n 3, 1) := by decide +kernel
theorem dX8_mean_72 : decode cX8_mean 72 = .ok (.sipush 10000, 3) := by decide +kernel
theorem dX8_mean_75 : decode cX8_mean 75 = .ok (.iload_n 2, 1) := by decide +kernel
theorem dX8_mean_76 : decode cX8_mean 76 = .ok (.invokestatic 210, 3) := by decide +kernel
theorem dX8_mean_79 : decode cX8_mean 79 = .ok (.ireturn, 1) := by decide +kernel
theorem dX8_seed_0 : decode cX8_seed 0 = .ok (.aload_n 0, 1) := by decide +kernel
theorem dX8_seed_1 : decode cX8_seed 1 = .ok (.getfield 221, 3) := by decide +kernel
theorem dX8_seed_4 : decode cX8_seed 4 = .ok (.lstore_n 3, 1) := by decide +kernel
theorem dX8_seed_5 : decode cX8_seed 5 = .ok (.aload_n 0, 1) := by decide +kernel
theorem dX8_seed_6 : decode cX8_seed 6 = .ok (.lload_n 1, 1) := by decide +kernel
theorem dX8_seed_7 : decode cX8_seed 7 = .ok (.putfield 221, 3) := by decide +kernel
theorem dX8_seed_10 : decode cX8_seed 10 = .ok (.lload_n 3, 1) := by decide +kernel
theorem dX8_seed_11 : decode cX8_seed 11 = .ok (.lreturn, 1) := by decide +kernel
theorem dX8_drawn_0 : decode cX8_drawn 0 = .ok (.iload_n 1, 1) := by decide +kernel
theorem dX8_drawn_1 : decode cX8_drawn 1 = .ok (.i2l, 1) := by decide +kernel
theorem dX8_drawn_2 : decode cX8_drawn 2 = .ok (.lconst 1, 1) := by decide +kernel
theorem dX8_drawn_3 : decode cX8_drawn 3 = .ok (.ldc2_w 225, 3) := by decide +kernel
theorem dX8_drawn_6 : decode cX8_drawn 6 = .ok (.invokestatic 57, 3) := by decide +kernel
theorem dX8_drawn_9 : decode cX8_drawn 9 = .ok (.ifCond .ne 6, 3) := by decide +kernel
theorem dX8_drawn_12 : decode cX8_drawn 12 = .ok (.bipush (-2), 2) := by decide +kernel
theorem dX8_drawn_14 : decode cX8_drawn 14 = .ok (.ireturn, 1) := by decide +kernel
theorem dX8_drawn_15 : decode cX8_drawn 15 = .ok (.aload_n 0, 1) := by decide +kernel
theorem dX8_drawn_16 : decode cX8_drawn 16 = .ok (.getfield 13, 3) := by decide +kernel
theorem dX8_drawn_19 : decode cX8_drawn 19 = .ok (.aload_n 0, 1) := by decide +kernel
theorem dX8_drawn_20 : decode cX8_drawn 20 = .ok (.getfield 16, 3) := by decide +kernel
theorem dX8_drawn_23 : decode cX8_drawn 23 = .ok (.invokestatic 134, 3) := by decide +kernel
theorem dX8_drawn_26 : decode cX8_drawn 26 = .ok (.iconst 0, 1) := by decide +kernel
theorem dX8_drawn_27 : decode cX8_drawn 27 = .ok (.istore_n 2, 1) := by decide +kernel
theorem dX8_drawn_28 : decode cX8_drawn 28 = .ok (.iconst 0, 1) := by decide +kernel
theorem dX8_drawn_29 : decode cX8_drawn 29 = .ok (.istore_n 3, 1) := by decide +kernel
theorem dX8_drawn_30 : decode cX8_drawn 30 = .ok (.iload_n 3, 1) := by decide +kernel
theorem dX8_drawn_31 : decode cX8_drawn 31 = .ok (.iload_n 1, 1) := by decide +kernel
theorem dX8_drawn_32 : decode cX8_drawn 32 = .ok (.if_icmp .ge 91, 3) := by decide +kernel
theorem dX8_drawn_35 : decode cX8_drawn 35 = .ok (.aload_n 0, 1) := by decide +kernel
theorem dX8_drawn_36 : decode cX8_drawn 36 = .ok (.aload_n 0, 1) := by decide +kernel
theorem dX8_drawn_37 : decode cX8_drawn 37 = .ok (.getfield 221, 3) := by decide +kernel
theorem dX8_drawn_40 : decode cX8_drawn 40 = .ok (.ldc2_w 227, 3) := by decide +kernel
theorem dX8_drawn_43 : decode cX8_drawn 43 = .ok (.lmul, 1) := by decide +kernel
theorem dX8_drawn_44 : decode cX8_drawn 44 = .ok (.ldc2_w 229, 3) := by decide +kernel
theorem dX8_drawn_47 : decode cX8_drawn 47 = .ok (.ladd, 1) := by decide +kernel
theorem dX8_drawn_48 : decode cX8_drawn 48 = .ok (.putfield 221, 3) := by decide +kernel
theorem dX8_drawn_51 : decode cX8_drawn 51 = .ok (.aload_n 0, 1) := by decide +kernel
theorem dX8_drawn_52 : decode cX8_drawn 52 = .ok (.getfield 221, 3) := by decide +kernel
theorem dX8_drawn_55 : decode cX8_drawn 55 = .ok (.bipush 33, 2) := by decide +kernel
theorem dX8_drawn_57 : decode cX8_drawn 57 = .ok (.lushr, 1) := by decide +kernel
theorem dX8_drawn_58 : decode cX8_drawn 58 = .ok (.l2i, 1) := by decide +kernel
theorem dX8_drawn_59 : decode cX8_drawn 59 = .ok (.istore 4, 2) := by decide +kernel
theorem dX8_drawn_61 : decode cX8_drawn 61 = .ok (.aload_n 0, 1) := by decide +kernel
theorem dX8_drawn_62 : decode cX8_drawn 62 = .ok (.getfield 54, 3) := by decide +kernel
theorem dX8_drawn_65 : decode cX8_drawn 65 = .ok (.ifCond .le 34, 3) := by decide +kernel
theorem dX8_drawn_68 : decode cX8_drawn 68 = .ok (.aload_n 0, 1) := by decide +kernel
theorem dX8_drawn_69 : decode cX8_drawn 69 = .ok (.getfield 16, 3) := by decide +kernel
theorem dX8_drawn_72 : decode cX8_drawn 72 = .ok (.bipush 20, 2) := by decide +kernel
theorem dX8_drawn_74 : decode cX8_drawn 74 = .ok (.iconst 4, 1) := by decide +kernel
theorem dX8_drawn_75 : decode cX8_drawn 75 = .ok (.iload 4, 2) := by decide +kernel
theorem dX8_drawn_77 : decode cX8_drawn 77 = .ok (.iconst 4, 1) := by decide +kernel
theorem dX8_drawn_78 : decode cX8_drawn 78 = .ok (.idiv, 1) := by decide +kernel
theorem dX8_drawn_79 : decode cX8_drawn 79 = .ok (.iconst 4, 1) := by decide +kernel
theorem dX8_drawn_80 : decode cX8_drawn 80 = .ok (.irem, 1) := by decide +kernel
theorem dX8_drawn_81 : decode cX8_drawn 81 = .ok (.imul, 1) := by decide +kernel
theorem dX8_drawn_82 : decode cX8_drawn 82 = .ok (.iadd, 1) := by decide +kernel
theorem dX8_drawn_83 : decode cX8_drawn 83 = .ok (.iload 4, 2) := by decide +kernel
theorem dX8_drawn_85 : decode cX8_drawn 85 = .ok (.iconst 4, 1) := by decide +kernel
theorem dX8_drawn_86 : decode cX8_drawn 86 = .ok (.irem, 1) := by decide +kernel
theorem dX8_drawn_87 : decode cX8_drawn 87 = .ok (.iadd, 1) := by decide +kernel
theorem dX8_drawn_88 : decode cX8_drawn 88 = .ok (.iload 4, 2) := by decide +kernel
theorem dX8_drawn_90 : decode cX8_drawn 90 = .ok (.bipush 16, 2) := by decide +kernel
theorem dX8_drawn_92 : decode cX8_drawn 92 = .ok (.idiv, 1) := by decide +kernel
theorem dX8_drawn_93 : decode cX8_drawn 93 = .ok (.aload_n 0, 1) := by decide +kernel
theorem dX8_drawn_94 : decode cX8_drawn 94 = .ok (.getfield 54, 3) := by decide +kernel
theorem dX8_drawn_97 : decode cX8_drawn 97 = .ok (.irem, 1) := by decide +kernel
theorem dX8_drawn_98 : decode cX8_drawn 98 = .ok (.iastore, 1) := by decide +kernel
theorem dX8_drawn_99 : decode cX8_drawn 99 = .ok (.iload_n 2, 1) := by decide +kernel
theorem dX8_drawn_100 : decode cX8_drawn 100 = .ok (.aload_n 0, 1) := by decide +kernel
theorem dX8_drawn_101 : decode cX8_drawn 101 = .ok (.aload_n 0, 1) := by decide +kernel
theorem dX8_drawn_102 : decode cX8_drawn 102 = .ok (.getfield 16, 3) := by decide +kernel
theorem dX8_drawn_105 : decode cX8_drawn 105 = .ok (.aload_n 0, 1) := by decide +kernel
theorem dX8_drawn_106 : decode cX8_drawn 106 = .ok (.getfield 16, 3) := by decide +kernel
theorem dX8_drawn_109 : decode cX8_drawn 109 = .ok (.bipush 37, 2) := by decide +kernel
theorem dX8_drawn_111 : decode cX8_drawn 111 = .ok (.iaload, 1) := by decide +kernel
theorem dX8_drawn_112 : decode cX8_drawn 112 = .ok (.invokevirtual 142, 3) := by decide +kernel
theorem dX8_drawn_115 : decode cX8_drawn 115 = .ok (.iadd, 1) := by decide +kernel
theorem dX8_drawn_116 : decode cX8_drawn 116 = .ok (.istore_n 2, 1) := by decide +kernel
theorem dX8_drawn_117 : decode cX8_drawn 117 = .ok (.iinc 3 1, 3) := by decide +kernel
theorem dX8_drawn_120 : decode cX8_drawn 120 = .ok (.goto (-90), 3) := by decide +kernel
theorem dX8_drawn_123 : decode cX8_drawn 123 = .ok (.iload_n 2, 1) := by decide +kernel
theorem dX8_drawn_124 : decode cX8_drawn 124 = .ok (.ireturn, 1) := by decide +kernel
theorem dX8_keep_0 : decode cX8_keep 0 = .ok (.iload_n 1, 1) := by decide +kernel
theorem dX8_keep_1 : decode cX8_keep 1 = .ok (.i2l, 1) := by decide +kernel
theorem dX8_keep_2 : decode cX8_keep 2 = .ok (.lconst 0, 1) := by decide +kernel
theorem dX8_keep_3 : decode cX8_keep 3 = .ok (.lconst 1, 1) := by decide +kernel
theorem dX8_keep_4 : decode cX8_keep 4 = .ok (.invokestatic 57, 3) := by decide +kernel
theorem dX8_keep_7 : decode cX8_keep 7 = .ok (.ifCond .ne 5, 3) := by decide +kernel
theorem dX8_keep_10 : decode cX8_keep 10 = .ok (.iconst (-1), 1) := by decide +kernel
theorem dX8_keep_11 : decode cX8_keep 11 = .ok (.ireturn, 1) := by decide +kernel
theorem dX8_keep_12 : decode cX8_keep 12 = .ok (.aload_n 0, 1) := by decide +kernel
theorem dX8_keep_13 : decode cX8_keep 13 = .ok (.getfield 25, 3) := by decide +kernel
theorem dX8_keep_16 : decode cX8_keep 16 = .ok (.iload_n 1, 1) := by decide +kernel
theorem dX8_keep_17 : decode cX8_keep 17 = .ok (.iconst 1, 1) := by decide +kernel
theorem dX8_keep_18 : decode cX8_keep 18 = .ok (.bastore, 1) := by decide +kernel
theorem dX8_keep_19 : decode cX8_keep 19 = .ok (.iconst 0, 1) := by decide +kernel
theorem dX8_keep_20 : decode cX8_keep 20 = .ok (.istore_n 2, 1) := by decide +kernel
theorem dX8_keep_21 : decode cX8_keep 21 = .ok (.iload_n 2, 1) := by decide +kernel
theorem dX8_keep_22 : decode cX8_keep 22 = .ok (.bipush 38, 2) := by decide +kernel
theorem dX8_keep_24 : decode cX8_keep 24 = .ok (.if_icmp .ge 26, 3) := by decide +kernel
theorem dX8_keep_27 : decode cX8_keep 27 = .ok (.aload_n 0, 1) := by decide +kernel
theorem dX8_keep_28 : decode cX8_keep 28 = .ok (.getfield 22, 3) := by decide +kernel
theorem dX8_keep_31 : decode cX8_keep 31 = .ok (.bipush 38, 2) := by decide +kernel
theorem dX8_keep_33 : decode cX8_keep 33 = .ok (.iload_n 1, 1) := by decide +kernel
theorem dX8_keep_34 : decode cX8_keep 34 = .ok (.imul, 1) := by decide +kernel
theorem dX8_keep_35 : decode cX8_keep 35 = .ok (.iload_n 2, 1) := by decide +kernel
theorem dX8_keep_36 : decode cX8_keep 36 = .ok (.iadd, 1) := by decide +kernel
theorem dX8_keep_37 : decode cX8_keep 37 = .ok (.aload_n 0, 1) := by decide +kernel
theorem dX8_keep_38 : decode cX8_keep 38 = .ok (.getfield 13, 3) := by decide +kernel
theorem dX8_keep_41 : decode cX8_keep 41 = .ok (.iload_n 2, 1) := by decide +kernel
theorem dX8_keep_42 : decode cX8_keep 42 = .ok (.iaload, 1) := by decide +kernel
theorem dX8_keep_43 : decode cX8_keep 43 = .ok (.iastore, 1) := by decide +kernel
theorem dX8_keep_44 : decode cX8_keep 44 = .ok (.iinc 2 1, 3) := by decide +kernel
theorem dX8_keep_47 : decode cX8_keep 47 = .ok (.goto (-26), 3) := by decide +kernel
theorem dX8_keep_50 : decode cX8_keep 50 = .ok (.aload_n 0, 1) := by decide +kernel
theorem dX8_keep_51 : decode cX8_keep 51 = .ok (.getfield 13, 3) := by decide +kernel
theorem dX8_keep_54 : decode cX8_keep 54 = .ok (.bipush 37, 2) := by decide +kernel
theorem dX8_keep_56 : decode cX8_keep 56 = .ok (.iaload, 1) := by decide +kernel
theorem dX8_keep_57 : decode cX8_keep 57 = .ok (.ireturn, 1) := by decide +kernel
theorem dX8_again_0 : decode cX8_again 0 = .ok (.iload_n 1, 1) := by decide +kernel
theorem dX8_again_1 : decode cX8_again 1 = .ok (.i2l, 1) := by decide +kernel
theorem dX8_again_2 : decode cX8_again 2 = .ok (.lconst 0, 1) := by decide +kernel
theorem dX8_again_3 : decode cX8_again 3 = .ok (.lconst 1, 1) := by decide +kernel
theorem dX8_again_4 : decode cX8_again 4 = .ok (.invokestatic 57, 3) := by decide +kernel
theorem dX8_again_7 : decode cX8_again 7 = .ok (.ifCond .ne 5, 3) := by decide +kernel
theorem dX8_again_10 : decode cX8_again 10 = .ok (.iconst (-1), 1) := by decide +kernel
theorem dX8_again_11 : decode cX8_again 11 = .ok (.ireturn, 1) := by decide +kernel
theorem dX8_again_12 : decode cX8_again 12 = .ok (.aload_n 0, 1) := by decide +kernel
theorem dX8_again_13 : decode cX8_again 13 = .ok (.getfield 25, 3) := by decide +kernel
theorem dX8_again_16 : decode cX8_again 16 = .ok (.iload_n 1, 1) := by decide +kernel
theorem dX8_again_17 : decode cX8_again 17 = .ok (.baload, 1) := by decide +kernel
theorem dX8_again_18 : decode cX8_again 18 = .ok (.ifCond .ne 6, 3) := by decide +kernel
theorem dX8_again_21 : decode cX8_again 21 = .ok (.bipush (-3), 2) := by decide +kernel
theorem dX8_again_23 : decode cX8_again 23 = .ok (.ireturn, 1) := by decide +kernel
theorem dX8_again_24 : decode cX8_again 24 = .ok (.iconst 0, 1) := by decide +kernel
theorem dX8_again_25 : decode cX8_again 25 = .ok (.istore_n 2, 1) := by decide +kernel
theorem dX8_again_26 : decode cX8_again 26 = .ok (.iload_n 2, 1) := by decide +kernel
theorem dX8_again_27 : decode cX8_again 27 = .ok (.bipush 38, 2) := by decide +kernel
theorem dX8_again_29 : decode cX8_again 29 = .ok (.if_icmp .ge 26, 3) := by decide +kernel
theorem dX8_again_32 : decode cX8_again 32 = .ok (.aload_n 0, 1) := by decide +kernel
theorem dX8_again_33 : decode cX8_again 33 = .ok (.getfield 13, 3) := by decide +kernel
theorem dX8_again_36 : decode cX8_again 36 = .ok (.iload_n 2, 1) := by decide +kernel
theorem dX8_again_37 : decode cX8_again 37 = .ok (.aload_n 0, 1) := by decide +kernel
theorem dX8_again_38 : decode cX8_again 38 = .ok (.getfield 22, 3) := by decide +kernel
theorem dX8_again_41 : decode cX8_again 41 = .ok (.bipush 38, 2) := by decide +kernel
theorem dX8_again_43 : decode cX8_again 43 = .ok (.iload_n 1, 1) := by decide +kernel
theorem dX8_again_44 : decode cX8_again 44 = .ok (.imul, 1) := by decide +kernel
theorem dX8_again_45 : decode cX8_again 45 = .ok (.iload_n 2, 1) := by decide +kernel
theorem dX8_again_46 : decode cX8_again 46 = .ok (.iadd, 1) := by decide +kernel
theorem dX8_again_47 : decode cX8_again 47 = .ok (.iaload, 1) := by decide +kernel
theorem dX8_again_48 : decode cX8_again 48 = .ok (.iastore, 1) := by decide +kernel
theorem dX8_again_49 : decode cX8_again 49 = .ok (.iinc 2 1, 3) := by decide +kernel
theorem dX8_again_52 : decode cX8_again 52 = .ok (.goto (-26), 3) := by decide +kernel
theorem dX8_again_55 : decode cX8_again 55 = .ok (.aload_n 0, 1) := by decide +kernel
theorem dX8_again_56 : decode cX8_again 56 = .ok (.iconst 0, 1) := by decide +kernel
theorem dX8_again_57 : decode cX8_again 57 = .ok (.putfield 99, 3) := by decide +kernel
theorem dX8_again_60 : decode cX8_again 60 = .ok (.aload_n 0, 1) := by decide +kernel
theorem dX8_again_61 : decode cX8_again 61 = .ok (.getfield 13, 3) := by decide +kernel
theorem dX8_again_64 : decode cX8_again 64 = .ok (.bipush 37, 2) := by decide +kernel
theorem dX8_again_66 : decode cX8_again 66 = .ok (.iaload, 1) := by decide +kernel
theorem dX8_again_67 : decode cX8_again 67 = .ok (.ireturn, 1) := by decide +kernel
end
section
theorem dL_law_0 : decode cL_law 0 = .ok (.new 7, 3) := by decide +kernel
theorem dL_law_3 : decode cL_law 3 = .ok (.dup, 1) := by decide +kernel
theorem dL_law_4 : decode cL_law 4 = .ok (.invokespecial 9, 3) := by decide +kernel
theorem dL_law_7 : decode cL_law 7 = .ok (.astore_n 1, 1) := by decide +kernel
theorem dL_law_8 : decode cL_law 8 = .ok (.new 10, 3) := by decide +kernel
theorem dL_law_11 : decode cL_law 11 = .ok (.dup, 1) := by decide +kernel
theorem dL_law_12 : decode cL_law 12 = .ok (.invokespecial 12, 3) := by decide +kernel
theorem dL_law_15 : decode cL_law 15 = .ok (.astore_n 2, 1) := by decide +kernel
theorem dL_law_16 : decode cL_law 16 = .ok (.iconst 0, 1) := by decide +kernel
theorem dL_law_17 : decode cL_law 17 = .ok (.istore_n 3, 1) := by decide +kernel
theorem dL_law_18 : decode cL_law 18 = .ok (.iload_n 3, 1) := by decide +kernel
theorem dL_law_19 : decode cL_law 19 = .ok (.aload_n 0, 1) := by decide +kernel
theorem dL_law_20 : decode cL_law 20 = .ok (.arraylength, 1) := by decide +kernel
theorem dL_law_21 : decode cL_law 21 = .ok (.iconst 4, 1) := by decide +kernel
theorem dL_law_22 : decode cL_law 22 = .ok (.isub, 1) := by decide +kernel
theorem dL_law_23 : decode cL_law 23 = .ok (.if_icmp .gt 1022, 3) := by decide +kernel
theorem dL_law_26 : decode cL_law 26 = .ok (.aload_n 0, 1) := by decide +kernel
theorem dL_law_27 : decode cL_law 27 = .ok (.iload_n 3, 1) := by decide +kernel
theorem dL_law_28 : decode cL_law 28 = .ok (.iaload, 1) := by decide +kernel
theorem dL_law_29 : decode cL_law 29 = .ok (.bipush 31, 2) := by decide +kernel
theorem dL_law_31 : decode cL_law 31 = .ok (.iand, 1) := by decide +kernel
theorem dL_law_32 : decode cL_law 32 = .ok (.tableswitch 1007 0 27 #[128, 151, 164, 177, 190, 213, 246, 279, 312, 371, 404, 447, 470, 513, 536, 559, 572, 595, 658, 701, 714, 727, 776, 835, 884, 938, 961, 984], 128) := by decide +kernel
theorem dL_law_160 : decode cL_law 160 = .ok (.aload_n 1, 1) := by decide +kernel
theorem dL_law_161 : decode cL_law 161 = .ok (.aload_n 0, 1) := by decide +kernel
theorem dL_law_162 : decode cL_law 162 = .ok (.iload_n 3, 1) := by decide +kernel
theorem dL_law_163 : decode cL_law 163 = .ok (.iconst 1, 1) := by decide +kernel
theorem dL_law_164 : decode cL_law 164 = .ok (.iadd, 1) := by decide +kernel
theorem dL_law_165 : decode cL_law 165 = .ok (.iaload, 1) := by decide +kernel
theorem dL_law_166 : decode cL_law 166 = .ok (.invokevirtual 13, 3) := by decide +kernel
theorem dL_law_169 : decode cL_law 169 = .ok (.aload_n 2, 1) := by decide +kernel
theorem dL_law_170 : decode cL_law 170 = .ok (.aload_n 0, 1) := by decide +kernel
theorem dL_law_171 : decode cL_law 171 = .ok (.iload_n 3, 1) := by decide +kernel
theorem dL_law_172 : decode cL_law 172 = .ok (.iconst 1, 1) := by decide +kernel
theorem dL_law_173 : decode cL_law 173 = .ok (.iadd, 1) := by decide +kernel
theorem dL_law_174 : decode cL_law 174 = .ok (.iaload, 1) := by decide +kernel
theorem dL_law_175 : decode cL_law 175 = .ok (.invokevirtual 17, 3) := by decide +kernel
theorem dL_law_178 : decode cL_law 178 = .ok (.if_icmp .eq 861, 3) := by decide +kernel
theorem dL_law_181 : decode cL_law 181 = .ok (.iconst 0, 1) := by decide +kernel
theorem dL_law_182 : decode cL_law 182 = .ok (.ireturn, 1) := by decide +kernel
theorem dL_law_183 : decode cL_law 183 = .ok (.aload_n 1, 1) := by decide +kernel
theorem dL_law_184 : decode cL_law 184 = .ok (.invokevirtual 18, 3) := by decide +kernel
theorem dL_law_187 : decode cL_law 187 = .ok (.aload_n 2, 1) := by decide +kernel
theorem dL_law_188 : decode cL_law 188 = .ok (.invokevirtual 22, 3) := by decide +kernel
theorem dL_law_191 : decode cL_law 191 = .ok (.if_icmp .eq 848, 3) := by decide +kernel
theorem dL_law_194 : decode cL_law 194 = .ok (.iconst 0, 1) := by decide +kernel
theorem dL_law_195 : decode cL_law 195 = .ok (.ireturn, 1) := by decide +kernel
theorem dL_law_196 : decode cL_law 196 = .ok (.aload_n 1, 1) := by decide +kernel
theorem dL_law_197 : decode cL_law 197 = .ok (.invokevirtual 23, 3) := by decide +kernel
theorem dL_law_200 : decode cL_law 200 = .ok (.aload_n 2, 1) := by decide +kernel
theorem dL_law_201 : decode cL_law 201 = .ok (.invokevirtual 26, 3) := by decide +kernel
theorem dL_law_204 : decode cL_law 204 = .ok (.if_icmp .eq 835, 3) := by decide +kernel
theorem dL_law_207 : decode cL_law 207 = .ok (.iconst 0, 1) := by decide +kernel
theorem dL_law_208 : decode cL_law 208 = .ok (.ireturn, 1) := by decide +kernel
theorem dL_law_209 : decode cL_law 209 = .ok (.aload_n 1, 1) := by decide +kernel
theorem dL_law_210 : decode cL_law 210 = .ok (.invokevirtual 27, 3) := by decide +kernel
theorem dL_law_213 : decode cL_law 213 = .ok (.aload_n 2, 1) := by decide +kernel
theorem dL_law_214 : decode cL_law 214 = .ok (.invokevirtual 30, 3) := by decide +kernel
theorem dL_law_217 : decode cL_law 217 = .ok (.if_icmp .eq 822, 3) := by decide +kernel
theorem dL_law_220 : decode cL_law 220 = .ok (.iconst 0, 1) := by decide +kernel
theorem dL_law_221 : decode cL_law 221 = .ok (.ireturn, 1) := by decide +kernel
theorem dL_law_222 : decode cL_law 222 = .ok (.aload_n 1, 1) := by decide +kernel
theorem dL_law_223 : decode cL_law 223 = .ok (.aload_n 0, 1) := by decide +kernel
theorem dL_law_224 : decode cL_law 224 = .ok (.iload_n 3, 1) := by decide +kernel
theorem dL_law_225 : decode cL_law 225 = .ok (.iconst 1, 1) := by decide +kernel
theorem dL_law_226 : decode cL_law 226 = .ok (.iadd, 1) := by decide +kernel
theorem dL_law_227 : decode cL_law 227 = .ok (.iaload, 1) := by decide +kernel
theorem dL_law_228 : decode cL_law 228 = .ok (.invokevirtual 31, 3) := by decide +kernel
theorem dL_law_231 : decode cL_law 231 = .ok (.aload_n 2, 1) := by decide +kernel
theorem dL_law_232 : decode cL_law 232 = .ok (.aload_n 0, 1) := by decide +kernel
theorem dL_law_233 : decode cL_law 233 = .ok (.iload_n 3, 1) := by decide +kernel
theorem dL_law_234 : decode cL_law 234 = .ok (.iconst 1, 1) := by decide +kernel
theorem dL_law_235 : decode cL_law 235 = .ok (.iadd, 1) := by decide +kernel
theorem dL_law_236 : decode cL_law 236 = .ok (.iaload, 1) := by decide +kernel
theorem dL_law_237 : decode cL_law 237 = .ok (.invokevirtual 34, 3) := by decide +kernel
theorem dL_law_240 : decode cL_law 240 = .ok (.if_icmp .eq 799, 3) := by decide +kernel
theorem dL_law_243 : decode cL_law 243 = .ok (.iconst 0, 1) := by decide +kernel
theorem dL_law_244 : decode cL_law 244 = .ok (.ireturn, 1) := by decide +kernel
theorem dL_law_245 : decode cL_law 245 = .ok (.aload_n 1, 1) := by decide +kernel
theorem dL_law_246 : decode cL_law 246 = .ok (.aload_n 0, 1) := by decide +kernel
theorem dL_law_247 : decode cL_law 247 = .ok (.iload_n 3, 1) := by decide +kernel
theorem dL_law_248 : decode cL_law 248 = .ok (.iconst 1, 1) := by decide +kernel
theorem dL_law_249 : decode cL_law 249 = .ok (.iadd, 1) := by decide +kernel
theorem dL_law_250 : decode cL_law 250 = .ok (.iaload, 1) := by decide +kernel
theorem dL_law_251 : decode cL_law 251 = .ok (.aload_n 0, 1) := by decide +kernel
theorem dL_law_252 : decode cL_law 252 = .ok (.iload_n 3, 1) := by decide +kernel
theorem dL_law_253 : decode cL_law 253 = .ok (.iconst 2, 1) := by decide +kernel
theorem dL_law_254 : decode cL_law 254 = .ok (.iadd, 1) := by decide +kernel
theorem dL_law_255 : decode cL_law 255 = .ok (.iaload, 1) := by decide +kernel
theorem dL_law_256 : decode cL_law 256 = .ok (.invokevirtual 35, 3) := by decide +kernel
theorem dL_law_259 : decode cL_law 259 = .ok (.aload_n 2, 1) := by decide +kernel
theorem dL_law_260 : decode cL_law 260 = .ok (.aload_n 0, 1) := by decide +kernel
theorem dL_law_261 : decode cL_law 261 = .ok (.iload_n 3, 1) := by decide +kernel
theorem dL_law_262 : decode cL_law 262 = .ok (.iconst 1, 1) := by decide +kernel
theorem dL_law_263 : decode cL_law 263 = .ok (.iadd, 1) := by decide +kernel
theorem dL_law_264 : decode cL_law 264 = .ok (.iaload, 1) := by decide +kernel
theorem dL_law_265 : decode cL_law 265 = .ok (.aload_n 0, 1) := by decide +kernel
theorem dL_law_266 : decode cL_law 266 = .ok (.iload_n 3, 1) := by decide +kernel
theorem dL_law_267 : decode cL_law 267 = .ok (.iconst 2, 1) := by decide +kernel
theorem dL_law_268 : decode cL_law 268 = .ok (.iadd, 1) := by decide +kernel
theorem dL_law_269 : decode cL_law 269 = .ok (.iaload, 1) := by decide +kernel
theorem dL_law_270 : decode cL_law 270 = .ok (.invokevirtual 39, 3) := by decide +kernel
theorem dL_law_273 : decode cL_law 273 = .ok (.if_icmp .eq 766, 3) := by decide +kernel
theorem dL_law_276 : decode cL_law 276 = .ok (.iconst 0, 1) := by decide +kernel
theorem dL_law_277 : decode cL_law 277 = .ok (.ireturn, 1) := by decide +kernel
theorem dL_law_278 : decode cL_law 278 = .ok (.aload_n 1, 1) := by decide +kernel
theorem dL_law_279 : decode cL_law 279 = .ok (.aload_n 0, 1) := by decide +kernel
theorem dL_law_280 : decode cL_law 280 = .ok (.iload_n 3, 1) := by decide +kernel
theorem dL_law_281 : decode cL_law 281 = .ok (.iconst 1, 1) := by decide +kernel
theorem dL_law_282 : decode cL_law 282 = .ok (.iadd, 1) := by decide +kernel
theorem dL_law_283 : decode cL_law 283 = .ok (.iaload, 1) := by decide +kernel
theorem dL_law_284 : decode cL_law 284 = .ok (.aload_n 0, 1) := by decide +kernel
theorem dL_law_285 : decode cL_law 285 = .ok (.iload_n 3, 1) := by decide +kernel
theorem dL_law_286 : decode cL_law 286 = .ok (.iconst 2, 1) := by decide +kernel
theorem dL_law_287 : decode cL_law 287 = .ok (.iadd, 1) := by decide +kernel
theorem dL_law_288 : decode cL_law 288 = .ok (.iaload, 1) := by decide +kernel
theorem dL_law_289 : decode cL_law 289 = .ok (.invokevirtual 40, 3) := by decide +kernel
theorem dL_law_292 : decode cL_law 292 = .ok (.aload_n 2, 1) := by decide +kernel
theorem dL_law_293 : decode cL_law 293 = .ok (.aload_n 0, 1) := by decide +kernel
theorem dL_law_294 : decode cL_law 294 = .ok (.iload_n 3, 1) := by decide +kernel
theorem dL_law_295 : decode cL_law 295 = .ok (.iconst 1, 1) := by decide +kernel
theorem dL_law_296 : decode cL_law 296 = .ok (.iadd, 1) := by decide +kernel
theorem dL_law_297 : decode cL_law 297 = .ok (.iaload, 1) := by decide +kernel
theorem dL_law_298 : decode cL_law 298 = .ok (.aload_n 0, 1) := by decide +kernel
theorem dL_law_299 : decode cL_law 299 = .ok (.iload_n 3, 1) := by decide +kernel
theorem dL_law_300 : decode cL_law 300 = .ok (.iconst 2, 1) := by decide +kernel
theorem dL_law_301 : decode cL_law 301 = .ok (.iadd, 1) := by decide +kernel
theorem dL_law_302 : decode cL_law 302 = .ok (.iaload, 1) := by decide +kernel
theorem dL_law_303 : decode cL_law 303 = .ok (.invokevirtual 43, 3) := by decide +kernel
theorem dL_law_306 : decode cL_law 306 = .ok (.if_icmp .eq 733, 3) := by decide +kernel
theorem dL_law_309 : decode cL_law 309 = .ok (.iconst 0, 1) := by decide +kernel
theorem dL_law_310 : decode cL_law 310 = .ok (.ireturn, 1) := by decide +kernel
theorem dL_law_311 : decode cL_law 311 = .ok (.aload_n 1, 1) := by decide +kernel
theorem dL_law_312 : decode cL_law 312 = .ok (.aload_n 0, 1) := by decide +kernel
theorem dL_law_313 : decode cL_law 313 = .ok (.iload_n 3, 1) := by decide +kernel
theorem dL_law_314 : decode cL_law 314 = .ok (.iconst 1, 1) := by decide +kernel
theorem dL_law_315 : decode cL_law 315 = .ok (.iadd, 1) := by decide +kernel
theorem dL_law_316 : decode cL_law 316 = .ok (.iaload, 1) := by decide +kernel
theorem dL_law_317 : decode cL_law 317 = .ok (.aload_n 0, 1) := by decide +kernel
theorem dL_law_318 : decode cL_law 318 = .ok (.iload_n 3, 1) := by decide +kernel
theorem dL_law_319 : decode cL_law 319 = .ok (.iconst 2, 1) := by decide +kernel
theorem dL_law_320 : decode cL_law 320 = .ok (.iadd, 1) := by decide +kernel
theorem dL_law_321 : decode cL_law 321 = .ok (.iaload, 1) := by decide +kernel
theorem dL_law_322 : decode cL_law 322 = .ok (.invokevirtual 44, 3) := by decide +kernel
theorem dL_law_325 : decode cL_law 325 = .ok (.aload_n 2, 1) := by decide +kernel
theorem dL_law_326 : decode cL_law 326 = .ok (.aload_n 0, 1) := by decide +kernel
theorem dL_law_327 : decode cL_law 327 = .ok (.iload_n 3, 1) := by decide +kernel
theorem dL_law_328 : decode cL_law 328 = .ok (.iconst 1, 1) := by decide +kernel
theorem dL_law_329 : decode cL_law 329 = .ok (.iadd, 1) := by decide +kernel
theorem dL_law_330 : decode cL_law 330 = .ok (.iaload, 1) := by decide +kernel
theorem dL_law_331 : decode cL_law 331 = .ok (.aload_n 0, 1) := by decide +kernel
theorem dL_law_332 : decode cL_law 332 = .ok (.iload_n 3, 1) := by decide +kernel
theorem dL_law_333 : decode cL_law 333 = .ok (.iconst 2, 1) := by decide +kernel
theorem dL_law_334 : decode cL_law 334 = .ok (.iadd, 1) := by decide +kernel
theorem dL_law_335 : decode cL_law 335 = .ok (.iaload, 1) := by decide +kernel
theorem dL_law_336 : decode cL_law 336 = .ok (.invokevirtual 47, 3) := by decide +kernel
theorem dL_law_339 : decode cL_law 339 = .ok (.if_icmp .eq 700, 3) := by decide +kernel
theorem dL_law_342 : decode cL_law 342 = .ok (.iconst 0, 1) := by decide +kernel
theorem dL_law_343 : decode cL_law 343 = .ok (.ireturn, 1) := by decide +kernel
theorem dL_law_344 : decode cL_law 344 = .ok (.aload_n 1, 1) := by decide +kernel
theorem dL_law_345 : decode cL_law 345 = .ok (.aload_n 0, 1) := by decide +kernel
theorem dL_law_346 : decode cL_law 346 = .ok (.iload_n 3, 1) := by decide +kernel
theorem dL_law_347 : decode cL_law 347 = .ok (.iconst 1, 1) := by decide +kernel
theorem dL_law_348 : decode cL_law 348 = .ok (.iadd, 1) := by decide +kernel
theorem dL_law_349 : decode cL_law 349 = .ok (.iaload, 1) := by decide +kernel
theorem dL_law_350 : decode cL_law 350 = .ok (.aload_n 0, 1) := by decide +kernel
theorem dL_law_351 : decode cL_law 351 = .ok (.iload_n 3, 1) := by decide +kernel
theorem dL_law_352 : decode cL_law 352 = .ok (.iconst 2, 1) := by decide +kernel
theorem dL_law_353 : decode cL_law 353 = .ok (.iadd, 1) := by decide +kernel
theorem dL_law_354 : decode cL_law 354 = .ok (.iaload, 1) := by decide +kernel
theorem dL_law_355 : decode cL_law 355 = .ok (.aload_n 0, 1) := by decide +kernel
theorem dL_law_356 : decode cL_law 356 = .ok (.iload_n 3, 1) := by decide +kernel
theorem dL_law_357 : decode cL_law 357 = .ok (.iconst 3, 1) := by decide +kernel
theorem dL_law_358 : decode cL_law 358 = .ok (.iadd, 1) := by decide +kernel
theorem dL_law_359 : decode cL_law 359 = .ok (.iaload, 1) := by decide +kernel
theorem dL_law_360 : decode cL_law 360 = .ok (.ifCond .eq 7, 3) := by decide +kernel
theorem dL_law_363 : decode cL_law 363 = .ok (.iconst 1, 1) := by decide +kernel
theorem dL_law_364 : decode cL_law 364 = .ok (.goto 4, 3) := by decide +kernel
theorem dL_law_367 : decode cL_law 367 = .ok (.iconst 0, 1) := by decide +kernel
theorem dL_law_368 : decode cL_law 368 = .ok (.invokevirtual 48, 3) := by decide +kernel
theorem dL_law_371 : decode cL_law 371 = .ok (.aload_n 2, 1) := by decide +kernel
theorem dL_law_372 : decode cL_law 372 = .ok (.aload_n 0, 1) := by decide +kernel
theorem dL_law_373 : decode cL_law 373 = .ok (.iload_n 3, 1) := by decide +kernel
theorem dL_law_374 : decode cL_law 374 = .ok (.iconst 1, 1) := by decide +kernel
theorem dL_law_375 : decode cL_law 375 = .ok (.iadd, 1) := by decide +kernel
theorem dL_law_376 : decode cL_law 376 = .ok (.iaload, 1) := by decide +kernel
theorem dL_law_377 : decode cL_law 377 = .ok (.aload_n 0, 1) := by decide +kernel
theorem dL_law_378 : decode cL_law 378 = .ok (.iload_n 3, 1) := by decide +kernel
theorem dL_law_379 : decode cL_law 379 = .ok (.iconst 2, 1) := by decide +kernel
theorem dL_law_380 : decode cL_law 380 = .ok (.iadd, 1) := by decide +kernel
theorem dL_law_381 : decode cL_law 381 = .ok (.iaload, 1) := by decide +kernel
theorem dL_law_382 : decode cL_law 382 = .ok (.aload_n 0, 1) := by decide +kernel
theorem dL_law_383 : decode cL_law 383 = .ok (.iload_n 3, 1) := by decide +kernel
theorem dL_law_384 : decode cL_law 384 = .ok (.iconst 3, 1) := by decide +kernel
theorem dL_law_385 : decode cL_law 385 = .ok (.iadd, 1) := by decide +kernel
theorem dL_law_386 : decode cL_law 386 = .ok (.iaload, 1) := by decide +kernel
theorem dL_law_387 : decode cL_law 387 = .ok (.ifCond .eq 7, 3) := by decide +kernel
theorem dL_law_390 : decode cL_law 390 = .ok (.iconst 1, 1) := by decide +kernel
theorem dL_law_391 : decode cL_law 391 = .ok (.goto 4, 3) := by decide +kernel
theorem dL_law_394 : decode cL_law 394 = .ok (.iconst 0, 1) := by decide +kernel
theorem dL_law_395 : decode cL_law 395 = .ok (.invokevirtual 52, 3) := by decide +kernel
theorem dL_law_398 : decode cL_law 398 = .ok (.if_icmp .eq 641, 3) := by decide +kernel
theorem dL_law_401 : decode cL_law 401 = .ok (.iconst 0, 1) := by decide +kernel
theorem dL_law_402 : decode cL_law 402 = .ok (.ireturn, 1) := by decide +kernel
theorem dL_law_403 : decode cL_law 403 = .ok (.aload_n 1, 1) := by decide +kernel
theorem dL_law_404 : decode cL_law 404 = .ok (.aload_n 0, 1) := by decide +kernel
theorem dL_law_405 : decode cL_law 405 = .ok (.iload_n 3, 1) := by decide +kernel
theorem dL_law_406 : decode cL_law 406 = .ok (.iconst 1, 1) := by decide +kernel
theorem dL_law_407 : decode cL_law 407 = .ok (.iadd, 1) := by decide +kernel
theorem dL_law_408 : decode cL_law 408 = .ok (.iaload, 1) := by decide +kernel
theorem dL_law_409 : decode cL_law 409 = .ok (.aload_n 0, 1) := by decide +kernel
theorem dL_law_410 : decode cL_law 410 = .ok (.iload_n 3, 1) := by decide +kernel
theorem dL_law_411 : decode cL_law 411 = .ok (.iconst 2, 1) := by decide +kernel
theorem dL_law_412 : decode cL_law 412 = .ok (.iadd, 1) := by decide +kernel
theorem dL_law_413 : decode cL_law 413 = .ok (.iaload, 1) := by decide +kernel
theorem dL_law_414 : decode cL_law 414 = .ok (.invokevirtual 53, 3) := by decide +kernel
theorem dL_law_417 : decode cL_law 417 = .ok (.aload_n 2, 1) := by decide +kernel
theorem dL_law_418 : decode cL_law 418 = .ok (.aload_n 0, 1) := by decide +kernel
theorem dL_law_419 : decode cL_law 419 = .ok (.iload_n 3, 1) := by decide +kernel
theorem dL_law_420 : decode cL_law 420 = .ok (.iconst 1, 1) := by decide +kernel
theorem dL_law_421 : decode cL_law 421 = .ok (.iadd, 1) := by decide +kernel
theorem dL_law_422 : decode cL_law 422 = .ok (.iaload, 1) := by decide +kernel
theorem dL_law_423 : decode cL_law 423 = .ok (.aload_n 0, 1) := by decide +kernel
theorem dL_law_424 : decode cL_law 424 = .ok (.iload_n 3, 1) := by decide +kernel
theorem dL_law_425 : decode cL_law 425 = .ok (.iconst 2, 1) := by decide +kernel
theorem dL_law_426 : decode cL_law 426 = .ok (.iadd, 1) := by decide +kernel
theorem dL_law_427 : decode cL_law 427 = .ok (.iaload, 1) := by decide +kernel
theorem dL_law_428 : decode cL_law 428 = .ok (.invokevirtual 56, 3) := by decide +kernel
theorem dL_law_431 : decode cL_law 431 = .ok (.if_icmp .eq 608, 3) := by decide +kernel
theorem dL_law_434 : decode cL_law 434 = .ok (.iconst 0, 1) := by decide +kernel
theorem dL_law_435 : decode cL_law 435 = .ok (.ireturn, 1) := by decide +kernel
theorem dL_law_436 : decode cL_law 436 = .ok (.aload_n 1, 1) := by decide +kernel
theorem dL_law_437 : decode cL_law 437 = .ok (.aload_n 0, 1) := by decide +kernel
theorem dL_law_438 : decode cL_law 438 = .ok (.iload_n 3, 1) := by decide +kernel
theorem dL_law_439 : decode cL_law 439 = .ok (.iconst 1, 1) := by decide +kernel
theorem dL_law_440 : decode cL_law 440 = .ok (.iadd, 1) := by decide +kernel
theorem dL_law_441 : decode cL_law 441 = .ok (.iaload, 1) := by decide +kernel
theorem dL_law_442 : decode cL_law 442 = .ok (.aload_n 0, 1) := by decide +kernel
theorem dL_law_443 : decode cL_law 443 = .ok (.iload_n 3, 1) := by decide +kernel
theorem dL_law_444 : decode cL_law 444 = .ok (.iconst 2, 1) := by decide +kernel
theorem dL_law_445 : decode cL_law 445 = .ok (.iadd, 1) := by decide +kernel
theorem dL_law_446 : decode cL_law 446 = .ok (.iaload, 1) := by decide +kernel
theorem dL_law_447 : decode cL_law 447 = .ok (.aload_n 0, 1) := by decide +kernel
theorem dL_law_448 : decode cL_law 448 = .ok (.iload_n 3, 1) := by decide +kernel
theorem dL_law_449 : decode cL_law 449 = .ok (.iconst 3, 1) := by decide +kernel
theorem dL_law_450 : decode cL_law 450 = .ok (.iadd, 1) := by decide +kernel
theorem dL_law_451 : decode cL_law 451 = .ok (.iaload, 1) := by decide +kernel
theorem dL_law_452 : decode cL_law 452 = .ok (.invokevirtual 57, 3) := by decide +kernel
theorem dL_law_455 : decode cL_law 455 = .ok (.aload_n 2, 1) := by decide +kernel
theorem dL_law_456 : decode cL_law 456 = .ok (.aload_n 0, 1) := by decide +kernel
theorem dL_law_457 : decode cL_law 457 = .ok (.iload_n 3, 1) := by decide +kernel
theorem dL_law_458 : decode cL_law 458 = .ok (.iconst 1, 1) := by decide +kernel
theorem dL_law_459 : decode cL_law 459 = .ok (.iadd, 1) := by decide +kernel
theorem dL_law_460 : decode cL_law 460 = .ok (.iaload, 1) := by decide +kernel
theorem dL_law_461 : decode cL_law 461 = .ok (.aload_n 0, 1) := by decide +kernel
theorem dL_law_462 : decode cL_law 462 = .ok (.iload_n 3, 1) := by decide +kernel
theorem dL_law_463 : decode cL_law 463 = .ok (.iconst 2, 1) := by decide +kernel
theorem dL_law_464 : decode cL_law 464 = .ok (.iadd, 1) := by decide +kernel
theorem dL_law_465 : decode cL_law 465 = .ok (.iaload, 1) := by decide +kernel
theorem dL_law_466 : decode cL_law 466 = .ok (.aload_n 0, 1) := by decide +kernel
theorem dL_law_467 : decode cL_law 467 = .ok (.iload_n 3, 1) := by decide +kernel
theorem dL_law_468 : decode cL_law 468 = .ok (.iconst 3, 1) := by decide +kernel
theorem dL_law_469 : decode cL_law 469 = .ok (.iadd, 1) := by decide +kernel
theorem dL_law_470 : decode cL_law 470 = .ok (.iaload, 1) := by decide +kernel
theorem dL_law_471 : decode cL_law 471 = .ok (.invokevirtual 61, 3) := by decide +kernel
theorem dL_law_474 : decode cL_law 474 = .ok (.if_icmp .eq 565, 3) := by decide +kernel
theorem dL_law_477 : decode cL_law 477 = .ok (.iconst 0, 1) := by decide +kernel
theorem dL_law_478 : decode cL_law 478 = .ok (.ireturn, 1) := by decide +kernel
theorem dL_law_479 : decode cL_law 479 = .ok (.aload_n 1, 1) := by decide +kernel
theorem dL_law_480 : decode cL_law 480 = .ok (.aload_n 0, 1) := by decide +kernel
theorem dL_law_481 : decode cL_law 481 = .ok (.iload_n 3, 1) := by decide +kernel
theorem dL_law_482 : decode cL_law 482 = .ok (.iconst 1, 1) := by decide +kernel
theorem dL_law_483 : decode cL_law 483 = .ok (.iadd, 1) := by decide +kernel
theorem dL_law_484 : decode cL_law 484 = .ok (.iaload, 1) := by decide +kernel
theorem dL_law_485 : decode cL_law 485 = .ok (.invokevirtual 62, 3) := by decide +kernel
theorem dL_law_488 : decode cL_law 488 = .ok (.aload_n 2, 1) := by decide +kernel
theorem dL_law_489 : decode cL_law 489 = .ok (.aload_n 0, 1) := by decide +kernel
theorem dL_law_490 : decode cL_law 490 = .ok (.iload_n 3, 1) := by decide +kernel
theorem dL_law_491 : decode cL_law 491 = .ok (.iconst 1, 1) := by decide +kernel
theorem dL_law_492 : decode cL_law 492 = .ok (.iadd, 1) := by decide +kernel
theorem dL_law_493 : decode cL_law 493 = .ok (.iaload, 1) := by decide +kernel
theorem dL_law_494 : decode cL_law 494 = .ok (.invokevirtual 65, 3) := by decide +kernel
theorem dL_law_497 : decode cL_law 497 = .ok (.if_icmp .eq 542, 3) := by decide +kernel
theorem dL_law_500 : decode cL_law 500 = .ok (.iconst 0, 1) := by decide +kernel
theorem dL_law_501 : decode cL_law 501 = .ok (.ireturn, 1) := by decide +kernel
theorem dL_law_502 : decode cL_law 502 = .ok (.aload_n 1, 1) := by decide +kernel
theorem dL_law_503 : decode cL_law 503 = .ok (.aload_n 0, 1) := by decide +kernel
theorem dL_law_504 : decode cL_law 504 = .ok (.iload_n 3, 1) := by decide +kernel
theorem dL_law_505 : decode cL_law 505 = .ok (.iconst 1, 1) := by decide +kernel
theorem dL_law_506 : decode cL_law 506 = .ok (.iadd, 1) := by decide +kernel
theorem dL_law_507 : decode cL_law 507 = .ok (.iaload, 1) := by decide +kernel
theorem dL_law_508 : decode cL_law 508 = .ok (.aload_n 0, 1) := by decide +kernel
theorem dL_law_509 : decode cL_law 509 = .ok (.iload_n 3, 1) := by decide +kernel
theorem dL_law_510 : decode cL_law 510 = .ok (.iconst 2, 1) := by decide +kernel
theorem dL_law_511 : decode cL_law 511 = .ok (.iadd, 1) := by decide +kernel
theorem dL_law_512 : decode cL_law 512 = .ok (.iaload, 1) := by decide +kernel
theorem dL_law_513 : decode cL_law 513 = .ok (.aload_n 0, 1) := by decide +kernel
theorem dL_law_514 : decode cL_law 514 = .ok (.iload_n 3, 1) := by decide +kernel
theorem dL_law_515 : decode cL_law 515 = .ok (.iconst 3, 1) := by decide +kernel
theorem dL_law_516 : decode cL_law 516 = .ok (.iadd, 1) := by decide +kernel
theorem dL_law_517 : decode cL_law 517 = .ok (.iaload, 1) := by decide +kernel
theorem dL_law_518 : decode cL_law 518 = .ok (.invokevirtual 66, 3) := by decide +kernel
theorem dL_law_521 : decode cL_law 521 = .ok (.aload_n 2, 1) := by decide +kernel
theorem dL_law_522 : decode cL_law 522 = .ok (.aload_n 0, 1) := by decide +kernel
theorem dL_law_523 : decode cL_law 523 = .ok (.iload_n 3, 1) := by decide +kernel
theorem dL_law_524 : decode cL_law 524 = .ok (.iconst 1, 1) := by decide +kernel
theorem dL_law_525 : decode cL_law 525 = .ok (.iadd, 1) := by decide +kernel
theorem dL_law_526 : decode cL_law 526 = .ok (.iaload, 1) := by decide +kernel
theorem dL_law_527 : decode cL_law 527 = .ok (.aload_n 0, 1) := by decide +kernel
theorem dL_law_528 : decode cL_law 528 = .ok (.iload_n 3, 1) := by decide +kernel
theorem dL_law_529 : decode cL_law 529 = .ok (.iconst 2, 1) := by decide +kernel
theorem dL_law_530 : decode cL_law 530 = .ok (.iadd, 1) := by decide +kernel
theorem dL_law_531 : decode cL_law 531 = .ok (.iaload, 1) := by decide +kernel
theorem dL_law_532 : decode cL_law 532 = .ok (.aload_n 0, 1) := by decide +kernel
theorem dL_law_533 : decode cL_law 533 = .ok (.iload_n 3, 1) := by decide +kernel
theorem dL_law_534 : decode cL_law 534 = .ok (.iconst 3, 1) := by decide +kernel
theorem dL_law_535 : decode cL_law 535 = .ok (.iadd, 1) := by decide +kernel
theorem dL_law_536 : decode cL_law 536 = .ok (.iaload, 1) := by decide +kernel
theorem dL_law_537 : decode cL_law 537 = .ok (.invokevirtual 69, 3) := by decide +kernel
theorem dL_law_540 : decode cL_law 540 = .ok (.if_icmp .eq 499, 3) := by decide +kernel
theorem dL_law_543 : decode cL_law 543 = .ok (.iconst 0, 1) := by decide +kernel
theorem dL_law_544 : decode cL_law 544 = .ok (.ireturn, 1) := by decide +kernel
theorem dL_law_545 : decode cL_law 545 = .ok (.aload_n 1, 1) := by decide +kernel
theorem dL_law_546 : decode cL_law 546 = .ok (.aload_n 0, 1) := by decide +kernel
theorem dL_law_547 : decode cL_law 547 = .ok (.iload_n 3, 1) := by decide +kernel
theorem dL_law_548 : decode cL_law 548 = .ok (.iconst 1, 1) := by decide +kernel
theorem dL_law_549 : decode cL_law 549 = .ok (.iadd, 1) := by decide +kernel
theorem dL_law_550 : decode cL_law 550 = .ok (.iaload, 1) := by decide +kernel
theorem dL_law_551 : decode cL_law 551 = .ok (.invokevirtual 70, 3) := by decide +kernel
theorem dL_law_554 : decode cL_law 554 = .ok (.aload_n 2, 1) := by decide +kernel
theorem dL_law_555 : decode cL_law 555 = .ok (.aload_n 0, 1) := by decide +kernel
theorem dL_law_556 : decode cL_law 556 = .ok (.iload_n 3, 1) := by decide +kernel
theorem dL_law_557 : decode cL_law 557 = .ok (.iconst 1, 1) := by decide +kernel
theorem dL_law_558 : decode cL_law 558 = .ok (.iadd, 1) := by decide +kernel
theorem dL_law_559 : decode cL_law 559 = .ok (.iaload, 1) := by decide +kernel
theorem dL_law_560 : decode cL_law 560 = .ok (.invokevirtual 73, 3) := by decide +kernel
theorem dL_law_563 : decode cL_law 563 = .ok (.if_icmp .eq 476, 3) := by decide +kernel
theorem dL_law_566 : decode cL_law 566 = .ok (.iconst 0, 1) := by decide +kernel
theorem dL_law_567 : decode cL_law 567 = .ok (.ireturn, 1) := by decide +kernel
theorem dL_law_568 : decode cL_law 568 = .ok (.aload_n 1, 1) := by decide +kernel
theorem dL_law_569 : decode cL_law 569 = .ok (.aload_n 0, 1) := by decide +kernel
theorem dL_law_570 : decode cL_law 570 = .ok (.iload_n 3, 1) := by decide +kernel
theorem dL_law_571 : decode cL_law 571 = .ok (.iconst 1, 1) := by decide +kernel
theorem dL_law_572 : decode cL_law 572 = .ok (.iadd, 1) := by decide +kernel
theorem dL_law_573 : decode cL_law 573 = .ok (.iaload, 1) := by decide +kernel
theorem dL_law_574 : decode cL_law 574 = .ok (.invokevirtual 74, 3) := by decide +kernel
theorem dL_law_577 : decode cL_law 577 = .ok (.aload_n 2, 1) := by decide +kernel
theorem dL_law_578 : decode cL_law 578 = .ok (.aload_n 0, 1) := by decide +kernel
theorem dL_law_579 : decode cL_law 579 = .ok (.iload_n 3, 1) := by decide +kernel
theorem dL_law_580 : decode cL_law 580 = .ok (.iconst 1, 1) := by decide +kernel
theorem dL_law_581 : decode cL_law 581 = .ok (.iadd, 1) := by decide +kernel
theorem dL_law_582 : decode cL_law 582 = .ok (.iaload, 1) := by decide +kernel
theorem dL_law_583 : decode cL_law 583 = .ok (.invokevirtual 77, 3) := by decide +kernel
theorem dL_law_586 : decode cL_law 586 = .ok (.if_icmp .eq 453, 3) := by decide +kernel
theorem dL_law_589 : decode cL_law 589 = .ok (.iconst 0, 1) := by decide +kernel
theorem dL_law_590 : decode cL_law 590 = .ok (.ireturn, 1) := by decide +kernel
theorem dL_law_591 : decode cL_law 591 = .ok (.aload_n 1, 1) := by decide +kernel
theorem dL_law_592 : decode cL_law 592 = .ok (.invokevirtual 78, 3) := by decide +kernel
theorem dL_law_595 : decode cL_law 595 = .ok (.aload_n 2, 1) := by decide +kernel
theorem dL_law_596 : decode cL_law 596 = .ok (.invokevirtual 81, 3) := by decide +kernel
theorem dL_law_599 : decode cL_law 599 = .ok (.if_icmp .eq 440, 3) := by decide +kernel
theorem dL_law_602 : decode cL_law 602 = .ok (.iconst 0, 1) := by decide +kernel
theorem dL_law_603 : decode cL_law 603 = .ok (.ireturn, 1) := by decide +kernel
theorem dL_law_604 : decode cL_law 604 = .ok (.aload_n 1, 1) := by decide +kernel
theorem dL_law_605 : decode cL_law 605 = .ok (.aload_n 0, 1) := by decide +kernel
theorem dL_law_606 : decode cL_law 606 = .ok (.iload_n 3, 1) := by decide +kernel
theorem dL_law_607 : decode cL_law 607 = .ok (.iconst 1, 1) := by decide +kernel
theorem dL_law_608 : decode cL_law 608 = .ok (.iadd, 1) := by decide +kernel
theorem dL_law_609 : decode cL_law 609 = .ok (.iaload, 1) := by decide +kernel
theorem dL_law_610 : decode cL_law 610 = .ok (.invokevirtual 82, 3) := by decide +kernel
theorem dL_law_613 : decode cL_law 613 = .ok (.aload_n 2, 1) := by decide +kernel
theorem dL_law_614 : decode cL_law 614 = .ok (.aload_n 0, 1) := by decide +kernel
theorem dL_law_615 : decode cL_law 615 = .ok (.iload_n 3, 1) := by decide +kernel
theorem dL_law_616 : decode cL_law 616 = .ok (.iconst 1, 1) := by decide +kernel
theorem dL_law_617 : decode cL_law 617 = .ok (.iadd, 1) := by decide +kernel
theorem dL_law_618 : decode cL_law 618 = .ok (.iaload, 1) := by decide +kernel
theorem dL_law_619 : decode cL_law 619 = .ok (.invokevirtual 85, 3) := by decide +kernel
theorem dL_law_622 : decode cL_law 622 = .ok (.if_icmp .eq 417, 3) := by decide +kernel
theorem dL_law_625 : decode cL_law 625 = .ok (.iconst 0, 1) := by decide +kernel
theorem dL_law_626 : decode cL_law 626 = .ok (.ireturn, 1) := by decide +kernel
theorem dL_law_627 : decode cL_law 627 = .ok (.aload_n 1, 1) := by decide +kernel
theorem dL_law_628 : decode cL_law 628 = .ok (.aload_n 0, 1) := by decide +kernel
theorem dL_law_629 : decode cL_law 629 = .ok (.iload_n 3, 1) := by decide +kernel
theorem dL_law_630 : decode cL_law 630 = .ok (.iconst 1, 1) := by decide +kernel
theorem dL_law_631 : decode cL_law 631 = .ok (.iadd, 1) := by decide +kernel
theorem dL_law_632 : decode cL_law 632 = .ok (.iaload, 1) := by decide +kernel
theorem dL_law_633 : decode cL_law 633 = .ok (.aload_n 0, 1) := by decide +kernel
theorem dL_law_634 : decode cL_law 634 = .ok (.iload_n 3, 1) := by decide +kernel
theorem dL_law_635 : decode cL_law 635 = .ok (.iconst 2, 1) := by decide +kernel
theorem dL_law_636 : decode cL_law 636 = .ok (.iadd, 1) := by decide +kernel
theorem dL_law_637 : decode cL_law 637 = .ok (.iaload, 1) := by decide +kernel
theorem dL_law_638 : decode cL_law 638 = .ok (.i2l, 1) := by decide +kernel
theorem dL_law_639 : decode cL_law 639 = .ok (.bipush 32, 2) := by decide +kernel
theorem dL_law_641 : decode cL_law 641 = .ok (.lshl, 1) := by decide +kernel
theorem dL_law_642 : decode cL_law 642 = .ok (.aload_n 0, 1) := by decide +kernel
theorem dL_law_643 : decode cL_law 643 = .ok (.iload_n 3, 1) := by decide +kernel
theorem dL_law_644 : decode cL_law 644 = .ok (.iconst 3, 1) := by decide +kernel
theorem dL_law_645 : decode cL_law 645 = .ok (.iadd, 1) := by decide +kernel
theorem dL_law_646 : decode cL_law 646 = .ok (.iaload, 1) := by decide +kernel
theorem dL_law_647 : decode cL_law 647 = .ok (.i2l, 1) := by decide +kernel
theorem dL_law_648 : decode cL_law 648 = .ok (.ldc2_w 86, 3) := by decide +kernel
theorem dL_law_651 : decode cL_law 651 = .ok (.land, 1) := by decide +kernel
theorem dL_law_652 : decode cL_law 652 = .ok (.lor, 1) := by decide +kernel
theorem dL_law_653 : decode cL_law 653 = .ok (.invokevirtual 88, 3) := by decide +kernel
theorem dL_law_656 : decode cL_law 656 = .ok (.aload_n 2, 1) := by decide +kernel
theorem dL_law_657 : decode cL_law 657 = .ok (.aload_n 0, 1) := by decide +kernel
theorem dL_law_658 : decode cL_law 658 = .ok (.iload_n 3, 1) := by decide +kernel
theorem dL_law_659 : decode cL_law 659 = .ok (.iconst 1, 1) := by decide +kernel
theorem dL_law_660 : decode cL_law 660 = .ok (.iadd, 1) := by decide +kernel
theorem dL_law_661 : decode cL_law 661 = .ok (.iaload, 1) := by decide +kernel
theorem dL_law_662 : decode cL_law 662 = .ok (.aload_n 0, 1) := by decide +kernel
theorem dL_law_663 : decode cL_law 663 = .ok (.iload_n 3, 1) := by decide +kernel
theorem dL_law_664 : decode cL_law 664 = .ok (.iconst 2, 1) := by decide +kernel
theorem dL_law_665 : decode cL_law 665 = .ok (.iadd, 1) := by decide +kernel
theorem dL_law_666 : decode cL_law 666 = .ok (.iaload, 1) := by decide +kernel
theorem dL_law_667 : decode cL_law 667 = .ok (.i2l, 1) := by decide +kernel
theorem dL_law_668 : decode cL_law 668 = .ok (.bipush 32, 2) := by decide +kernel
theorem dL_law_670 : decode cL_law 670 = .ok (.lshl, 1) := by decide +kernel
theorem dL_law_671 : decode cL_law 671 = .ok (.aload_n 0, 1) := by decide +kernel
theorem dL_law_672 : decode cL_law 672 = .ok (.iload_n 3, 1) := by decide +kernel
theorem dL_law_673 : decode cL_law 673 = .ok (.iconst 3, 1) := by decide +kernel
theorem dL_law_674 : decode cL_law 674 = .ok (.iadd, 1) := by decide +kernel
theorem dL_law_675 : decode cL_law 675 = .ok (.iaload, 1) := by decide +kernel
theorem dL_law_676 : decode cL_law 676 = .ok (.i2l, 1) := by decide +kernel
theorem dL_law_677 : decode cL_law 677 = .ok (.ldc2_w 86, 3) := by decide +kernel
theorem dL_law_680 : decode cL_law 680 = .ok (.land, 1) := by decide +kernel
theorem dL_law_681 : decode cL_law 681 = .ok (.lor, 1) := by decide +kernel
theorem dL_law_682 : decode cL_law 682 = .ok (.invokevirtual 92, 3) := by decide +kernel
theorem dL_law_685 : decode cL_law 685 = .ok (.if_icmp .eq 354, 3) := by decide +kernel
theorem dL_law_688 : decode cL_law 688 = .ok (.iconst 0, 1) := by decide +kernel
theorem dL_law_689 : decode cL_law 689 = .ok (.ireturn, 1) := by decide +kernel
theorem dL_law_690 : decode cL_law 690 = .ok (.aload_n 1, 1) := by decide +kernel
theorem dL_law_691 : decode cL_law 691 = .ok (.aload_n 0, 1) := by decide +kernel
theorem dL_law_692 : decode cL_law 692 = .ok (.iload_n 3, 1) := by decide +kernel
theorem dL_law_693 : decode cL_law 693 = .ok (.iconst 1, 1) := by decide +kernel
theorem dL_law_694 : decode cL_law 694 = .ok (.iadd, 1) := by decide +kernel
theorem dL_law_695 : decode cL_law 695 = .ok (.iaload, 1) := by decide +kernel
theorem dL_law_696 : decode cL_law 696 = .ok (.aload_n 0, 1) := by decide +kernel
theorem dL_law_697 : decode cL_law 697 = .ok (.iload_n 3, 1) := by decide +kernel
theorem dL_law_698 : decode cL_law 698 = .ok (.iconst 2, 1) := by decide +kernel
theorem dL_law_699 : decode cL_law 699 = .ok (.iadd, 1) := by decide +kernel
theorem dL_law_700 : decode cL_law 700 = .ok (.iaload, 1) := by decide +kernel
theorem dL_law_701 : decode cL_law 701 = .ok (.aload_n 0, 1) := by decide +kernel
theorem dL_law_702 : decode cL_law 702 = .ok (.iload_n 3, 1) := by decide +kernel
theorem dL_law_703 : decode cL_law 703 = .ok (.iconst 3, 1) := by decide +kernel
theorem dL_law_704 : decode cL_law 704 = .ok (.iadd, 1) := by decide +kernel
theorem dL_law_705 : decode cL_law 705 = .ok (.iaload, 1) := by decide +kernel
theorem dL_law_706 : decode cL_law 706 = .ok (.invokevirtual 93, 3) := by decide +kernel
theorem dL_law_709 : decode cL_law 709 = .ok (.aload_n 2, 1) := by decide +kernel
theorem dL_law_710 : decode cL_law 710 = .ok (.aload_n 0, 1) := by decide +kernel
theorem dL_law_711 : decode cL_law 711 = .ok (.iload_n 3, 1) := by decide +kernel
theorem dL_law_712 : decode cL_law 712 = .ok (.iconst 1, 1) := by decide +kernel
theorem dL_law_713 : decode cL_law 713 = .ok (.iadd, 1) := by decide +kernel
theorem dL_law_714 : decode cL_law 714 = .ok (.iaload, 1) := by decide +kernel
theorem dL_law_715 : decode cL_law 715 = .ok (.aload_n 0, 1) := by decide +kernel
theorem dL_law_716 : decode cL_law 716 = .ok (.iload_n 3, 1) := by decide +kernel
theorem dL_law_717 : decode cL_law 717 = .ok (.iconst 2, 1) := by decide +kernel
theorem dL_law_718 : decode cL_law 718 = .ok (.iadd, 1) := by decide +kernel
theorem dL_law_719 : decode cL_law 719 = .ok (.iaload, 1) := by decide +kernel
theorem dL_law_720 : decode cL_law 720 = .ok (.aload_n 0, 1) := by decide +kernel
theorem dL_law_721 : decode cL_law 721 = .ok (.iload_n 3, 1) := by decide +kernel
theorem dL_law_722 : decode cL_law 722 = .ok (.iconst 3, 1) := by decide +kernel
theorem dL_law_723 : decode cL_law 723 = .ok (.iadd, 1) := by decide +kernel
theorem dL_law_724 : decode cL_law 724 = .ok (.iaload, 1) := by decide +kernel
theorem dL_law_725 : decode cL_law 725 = .ok (.invokevirtual 96, 3) := by decide +kernel
theorem dL_law_728 : decode cL_law 728 = .ok (.if_icmp .eq 311, 3) := by decide +kernel
theorem dL_law_731 : decode cL_law 731 = .ok (.iconst 0, 1) := by decide +kernel
theorem dL_law_732 : decode cL_law 732 = .ok (.ireturn, 1) := by decide +kernel
theorem dL_law_733 : decode cL_law 733 = .ok (.aload_n 1, 1) := by decide +kernel
theorem dL_law_734 : decode cL_law 734 = .ok (.invokevirtual 97, 3) := by decide +kernel
theorem dL_law_737 : decode cL_law 737 = .ok (.aload_n 2, 1) := by decide +kernel
theorem dL_law_738 : decode cL_law 738 = .ok (.invokevirtual 100, 3) := by decide +kernel
theorem dL_law_741 : decode cL_law 741 = .ok (.if_icmp .eq 298, 3) := by decide +kernel
theorem dL_law_744 : decode cL_law 744 = .ok (.iconst 0, 1) := by decide +kernel
theorem dL_law_745 : decode cL_law 745 = .ok (.ireturn, 1) := by decide +kernel
theorem dL_law_746 : decode cL_law 746 = .ok (.aload_n 1, 1) := by decide +kernel
theorem dL_law_747 : decode cL_law 747 = .ok (.invokevirtual 101, 3) := by decide +kernel
theorem dL_law_750 : decode cL_law 750 = .ok (.aload_n 2, 1) := by decide +kernel
theorem dL_law_751 : decode cL_law 751 = .ok (.invokevirtual 104, 3) := by decide +kernel
theorem dL_law_754 : decode cL_law 754 = .ok (.if_icmp .eq 285, 3) := by decide +kernel
theorem dL_law_757 : decode cL_law 757 = .ok (.iconst 0, 1) := by decide +kernel
theorem dL_law_758 : decode cL_law 758 = .ok (.ireturn, 1) := by decide +kernel
theorem dL_law_759 : decode cL_law 759 = .ok (.aload_n 1, 1) := by decide +kernel
theorem dL_law_760 : decode cL_law 760 = .ok (.aload_n 0, 1) := by decide +kernel
theorem dL_law_761 : decode cL_law 761 = .ok (.iload_n 3, 1) := by decide +kernel
theorem dL_law_762 : decode cL_law 762 = .ok (.iconst 1, 1) := by decide +kernel
theorem dL_law_763 : decode cL_law 763 = .ok (.iadd, 1) := by decide +kernel
theorem dL_law_764 : decode cL_law 764 = .ok (.iaload, 1) := by decide +kernel
theorem dL_law_765 : decode cL_law 765 = .ok (.aload_n 0, 1) := by decide +kernel
theorem dL_law_766 : decode cL_law 766 = .ok (.iload_n 3, 1) := by decide +kernel
theorem dL_law_767 : decode cL_law 767 = .ok (.iconst 2, 1) := by decide +kernel
theorem dL_law_768 : decode cL_law 768 = .ok (.iadd, 1) := by decide +kernel
theorem dL_law_769 : decode cL_law 769 = .ok (.iaload, 1) := by decide +kernel
theorem dL_law_770 : decode cL_law 770 = .ok (.ifCond .eq 7, 3) := by decide +kernel
theorem dL_law_773 : decode cL_law 773 = .ok (.iconst 1, 1) := by decide +kernel
theorem dL_law_774 : decode cL_law 774 = .ok (.goto 4, 3) := by decide +kernel
theorem dL_law_777 : decode cL_law 777 = .ok (.iconst 0, 1) := by decide +kernel
theorem dL_law_778 : decode cL_law 778 = .ok (.invokevirtual 105, 3) := by decide +kernel
theorem dL_law_781 : decode cL_law 781 = .ok (.aload_n 2, 1) := by decide +kernel
theorem dL_law_782 : decode cL_law 782 = .ok (.aload_n 0, 1) := by decide +kernel
theorem dL_law_783 : decode cL_law 783 = .ok (.iload_n 3, 1) := by decide +kernel
theorem dL_law_784 : decode cL_law 784 = .ok (.iconst 1, 1) := by decide +kernel
theorem dL_law_785 : decode cL_law 785 = .ok (.iadd, 1) := by decide +kernel
theorem dL_law_786 : decode cL_law 786 = .ok (.iaload, 1) := by decide +kernel
theorem dL_law_787 : decode cL_law 787 = .ok (.aload_n 0, 1) := by decide +kernel
theorem dL_law_788 : decode cL_law 788 = .ok (.iload_n 3, 1) := by decide +kernel
theorem dL_law_789 : decode cL_law 789 = .ok (.iconst 2, 1) := by decide +kernel
theorem dL_law_790 : decode cL_law 790 = .ok (.iadd, 1) := by decide +kernel
theorem dL_law_791 : decode cL_law 791 = .ok (.iaload, 1) := by decide +kernel
theorem dL_law_792 : decode cL_law 792 = .ok (.ifCond .eq 7, 3) := by decide +kernel
theorem dL_law_795 : decode cL_law 795 = .ok (.iconst 1, 1) := by decide +kernel
theorem dL_law_796 : decode cL_law 796 = .ok (.goto 4, 3) := by decide +kernel
theorem dL_law_799 : decode cL_law 799 = .ok (.iconst 0, 1) := by decide +kernel
theorem dL_law_800 : decode cL_law 800 = .ok (.invokevirtual 109, 3) := by decide +kernel
theorem dL_law_803 : decode cL_law 803 = .ok (.if_icmp .eq 236, 3) := by decide +kernel
theorem dL_law_806 : decode cL_law 806 = .ok (.iconst 0, 1) := by decide +kernel
theorem dL_law_807 : decode cL_law 807 = .ok (.ireturn, 1) := by decide +kernel
theorem dL_law_808 : decode cL_law 808 = .ok (.aload_n 1, 1) := by decide +kernel
theorem dL_law_809 : decode cL_law 809 = .ok (.aload_n 0, 1) := by decide +kernel
theorem dL_law_810 : decode cL_law 810 = .ok (.iload_n 3, 1) := by decide +kernel
theorem dL_law_811 : decode cL_law 811 = .ok (.iconst 1, 1) := by decide +kernel
theorem dL_law_812 : decode cL_law 812 = .ok (.iadd, 1) := by decide +kernel
theorem dL_law_813 : decode cL_law 813 = .ok (.iaload, 1) := by decide +kernel
theorem dL_law_814 : decode cL_law 814 = .ok (.aload_n 0, 1) := by decide +kernel
theorem dL_law_815 : decode cL_law 815 = .ok (.iload_n 3, 1) := by decide +kernel
theorem dL_law_816 : decode cL_law 816 = .ok (.iconst 2, 1) := by decide +kernel
theorem dL_law_817 : decode cL_law 817 = .ok (.iadd, 1) := by decide +kernel
theorem dL_law_818 : decode cL_law 818 = .ok (.iaload, 1) := by decide +kernel
theorem dL_law_819 : decode cL_law 819 = .ok (.aload_n 0, 1) := by decide +kernel
theorem dL_law_820 : decode cL_law 820 = .ok (.iload_n 3, 1) := by decide +kernel
theorem dL_law_821 : decode cL_law 821 = .ok (.iconst 3, 1) := by decide +kernel
theorem dL_law_822 : decode cL_law 822 = .ok (.iadd, 1) := by decide +kernel
theorem dL_law_823 : decode cL_law 823 = .ok (.iaload, 1) := by decide +kernel
theorem dL_law_824 : decode cL_law 824 = .ok (.ifCond .eq 7, 3) := by decide +kernel
theorem dL_law_827 : decode cL_law 827 = .ok (.iconst 1, 1) := by decide +kernel
theorem dL_law_828 : decode cL_law 828 = .ok (.goto 4, 3) := by decide +kernel
theorem dL_law_831 : decode cL_law 831 = .ok (.iconst 0, 1) := by decide +kernel
theorem dL_law_832 : decode cL_law 832 = .ok (.invokevirtual 110, 3) := by decide +kernel
theorem dL_law_835 : decode cL_law 835 = .ok (.aload_n 2, 1) := by decide +kernel
theorem dL_law_836 : decode cL_law 836 = .ok (.aload_n 0, 1) := by decide +kernel
theorem dL_law_837 : decode cL_law 837 = .ok (.iload_n 3, 1) := by decide +kernel
theorem dL_law_838 : decode cL_law 838 = .ok (.iconst 1, 1) := by decide +kernel
theorem dL_law_839 : decode cL_law 839 = .ok (.iadd, 1) := by decide +kernel
theorem dL_law_840 : decode cL_law 840 = .ok (.iaload, 1) := by decide +kernel
theorem dL_law_841 : decode cL_law 841 = .ok (.aload_n 0, 1) := by decide +kernel
theorem dL_law_842 : decode cL_law 842 = .ok (.iload_n 3, 1) := by decide +kernel
theorem dL_law_843 : decode cL_law 843 = .ok (.iconst 2, 1) := by decide +kernel
theorem dL_law_844 : decode cL_law 844 = .ok (.iadd, 1) := by decide +kernel
theorem dL_law_845 : decode cL_law 845 = .ok (.iaload, 1) := by decide +kernel
theorem dL_law_846 : decode cL_law 846 = .ok (.aload_n 0, 1) := by decide +kernel
theorem dL_law_847 : decode cL_law 847 = .ok (.iload_n 3, 1) := by decide +kernel
theorem dL_law_848 : decode cL_law 848 = .ok (.iconst 3, 1) := by decide +kernel
theorem dL_law_849 : decode cL_law 849 = .ok (.iadd, 1) := by decide +kernel
theorem dL_law_850 : decode cL_law 850 = .ok (.iaload, 1) := by decide +kernel
theorem dL_law_851 : decode cL_law 851 = .ok (.ifCond .eq 7, 3) := by decide +kernel
theorem dL_law_854 : decode cL_law 854 = .ok (.iconst 1, 1) := by decide +kernel
theorem dL_law_855 : decode cL_law 855 = .ok (.goto 4, 3) := by decide +kernel
theorem dL_law_858 : decode cL_law 858 = .ok (.iconst 0, 1) := by decide +kernel
theorem dL_law_859 : decode cL_law 859 = .ok (.invokevirtual 113, 3) := by decide +kernel
theorem dL_law_862 : decode cL_law 862 = .ok (.if_icmp .eq 177, 3) := by decide +kernel
theorem dL_law_865 : decode cL_law 865 = .ok (.iconst 0, 1) := by decide +kernel
theorem dL_law_866 : decode cL_law 866 = .ok (.ireturn, 1) := by decide +kernel
theorem dL_law_867 : decode cL_law 867 = .ok (.aload_n 1, 1) := by decide +kernel
theorem dL_law_868 : decode cL_law 868 = .ok (.aload_n 0, 1) := by decide +kernel
theorem dL_law_869 : decode cL_law 869 = .ok (.iload_n 3, 1) := by decide +kernel
theorem dL_law_870 : decode cL_law 870 = .ok (.iconst 1, 1) := by decide +kernel
theorem dL_law_871 : decode cL_law 871 = .ok (.iadd, 1) := by decide +kernel
theorem dL_law_872 : decode cL_law 872 = .ok (.iaload, 1) := by decide +kernel
theorem dL_law_873 : decode cL_law 873 = .ok (.aload_n 0, 1) := by decide +kernel
theorem dL_law_874 : decode cL_law 874 = .ok (.iload_n 3, 1) := by decide +kernel
theorem dL_law_875 : decode cL_law 875 = .ok (.iconst 2, 1) := by decide +kernel
theorem dL_law_876 : decode cL_law 876 = .ok (.iadd, 1) := by decide +kernel
theorem dL_law_877 : decode cL_law 877 = .ok (.iaload, 1) := by decide +kernel
theorem dL_law_878 : decode cL_law 878 = .ok (.ifCond .eq 7, 3) := by decide +kernel
theorem dL_law_881 : decode cL_law 881 = .ok (.iconst 1, 1) := by decide +kernel
theorem dL_law_882 : decode cL_law 882 = .ok (.goto 4, 3) := by decide +kernel
theorem dL_law_885 : decode cL_law 885 = .ok (.iconst 0, 1) := by decide +kernel
theorem dL_law_886 : decode cL_law 886 = .ok (.invokevirtual 114, 3) := by decide +kernel
theorem dL_law_889 : decode cL_law 889 = .ok (.aload_n 2, 1) := by decide +kernel
theorem dL_law_890 : decode cL_law 890 = .ok (.aload_n 0, 1) := by decide +kernel
theorem dL_law_891 : decode cL_law 891 = .ok (.iload_n 3, 1) := by decide +kernel
theorem dL_law_892 : decode cL_law 892 = .ok (.iconst 1, 1) := by decide +kernel
theorem dL_law_893 : decode cL_law 893 = .ok (.iadd, 1) := by decide +kernel
theorem dL_law_894 : decode cL_law 894 = .ok (.iaload, 1) := by decide +kernel
theorem dL_law_895 : decode cL_law 895 = .ok (.aload_n 0, 1) := by decide +kernel
theorem dL_law_896 : decode cL_law 896 = .ok (.iload_n 3, 1) := by decide +kernel
theorem dL_law_897 : decode cL_law 897 = .ok (.iconst 2, 1) := by decide +kernel
theorem dL_law_898 : decode cL_law 898 = .ok (.iadd, 1) := by decide +kernel
theorem dL_law_899 : decode cL_law 899 = .ok (.iaload, 1) := by decide +kernel
theorem dL_law_900 : decode cL_law 900 = .ok (.ifCond .eq 7, 3) := by decide +kernel
theorem dL_law_903 : decode cL_law 903 = .ok (.iconst 1, 1) := by decide +kernel
theorem dL_law_904 : decode cL_law 904 = .ok (.goto 4, 3) := by decide +kernel
theorem dL_law_907 : decode cL_law 907 = .ok (.iconst 0, 1) := by decide +kernel
theorem dL_law_908 : decode cL_law 908 = .ok (.invokevirtual 117, 3) := by decide +kernel
theorem dL_law_911 : decode cL_law 911 = .ok (.if_icmp .eq 128, 3) := by decide +kernel
theorem dL_law_914 : decode cL_law 914 = .ok (.iconst 0, 1) := by decide +kernel
theorem dL_law_915 : decode cL_law 915 = .ok (.ireturn, 1) := by decide +kernel
theorem dL_law_916 : decode cL_law 916 = .ok (.aload_n 1, 1) := by decide +kernel
theorem dL_law_917 : decode cL_law 917 = .ok (.aload_n 0, 1) := by decide +kernel
theorem dL_law_918 : decode cL_law 918 = .ok (.iload_n 3, 1) := by decide +kernel
theorem dL_law_919 : decode cL_law 919 = .ok (.iconst 1, 1) := by decide +kernel
theorem dL_law_920 : decode cL_law 920 = .ok (.iadd, 1) := by decide +kernel
theorem dL_law_921 : decode cL_law 921 = .ok (.iaload, 1) := by decide +kernel
theorem dL_law_922 : decode cL_law 922 = .ok (.i2l, 1) := by decide +kernel
theorem dL_law_923 : decode cL_law 923 = .ok (.bipush 32, 2) := by decide +kernel
theorem dL_law_925 : decode cL_law 925 = .ok (.lshl, 1) := by decide +kernel
theorem dL_law_926 : decode cL_law 926 = .ok (.aload_n 0, 1) := by decide +kernel
theorem dL_law_927 : decode cL_law 927 = .ok (.iload_n 3, 1) := by decide +kernel
theorem dL_law_928 : decode cL_law 928 = .ok (.iconst 2, 1) := by decide +kernel
theorem dL_law_929 : decode cL_law 929 = .ok (.iadd, 1) := by decide +kernel
theorem dL_law_930 : decode cL_law 930 = .ok (.iaload, 1) := by decide +kernel
theorem dL_law_931 : decode cL_law 931 = .ok (.i2l, 1) := by decide +kernel
theorem dL_law_932 : decode cL_law 932 = .ok (.ldc2_w 86, 3) := by decide +kernel
theorem dL_law_935 : decode cL_law 935 = .ok (.land, 1) := by decide +kernel
theorem dL_law_936 : decode cL_law 936 = .ok (.lor, 1) := by decide +kernel
theorem dL_law_937 : decode cL_law 937 = .ok (.invokevirtual 118, 3) := by decide +kernel
theorem dL_law_940 : decode cL_law 940 = .ok (.aload_n 2, 1) := by decide +kernel
theorem dL_law_941 : decode cL_law 941 = .ok (.aload_n 0, 1) := by decide +kernel
theorem dL_law_942 : decode cL_law 942 = .ok (.iload_n 3, 1) := by decide +kernel
theorem dL_law_943 : decode cL_law 943 = .ok (.iconst 1, 1) := by decide +kernel
theorem dL_law_944 : decode cL_law 944 = .ok (.iadd, 1) := by decide +kernel
theorem dL_law_945 : decode cL_law 945 = .ok (.iaload, 1) := by decide +kernel
theorem dL_law_946 : decode cL_law 946 = .ok (.i2l, 1) := by decide +kernel
theorem dL_law_947 : decode cL_law 947 = .ok (.bipush 32, 2) := by decide +kernel
theorem dL_law_949 : decode cL_law 949 = .ok (.lshl, 1) := by decide +kernel
theorem dL_law_950 : decode cL_law 950 = .ok (.aload_n 0, 1) := by decide +kernel
theorem dL_law_951 : decode cL_law 951 = .ok (.iload_n 3, 1) := by decide +kernel
theorem dL_law_952 : decode cL_law 952 = .ok (.iconst 2, 1) := by decide +kernel
theorem dL_law_953 : decode cL_law 953 = .ok (.iadd, 1) := by decide +kernel
theorem dL_law_954 : decode cL_law 954 = .ok (.iaload, 1) := by decide +kernel
theorem dL_law_955 : decode cL_law 955 = .ok (.i2l, 1) := by decide +kernel
theorem dL_law_956 : decode cL_law 956 = .ok (.ldc2_w 86, 3) := by decide +kernel
theorem dL_law_959 : decode cL_law 959 = .ok (.land, 1) := by decide +kernel
theorem dL_law_960 : decode cL_law 960 = .ok (.lor, 1) := by decide +kernel
theorem dL_law_961 : decode cL_law 961 = .ok (.invokevirtual 122, 3) := by decide +kernel
theorem dL_law_964 : decode cL_law 964 = .ok (.lcmp, 1) := by decide +kernel
theorem dL_law_965 : decode cL_law 965 = .ok (.ifCond .eq 74, 3) := by decide +kernel
theorem dL_law_968 : decode cL_law 968 = .ok (.iconst 0, 1) := by decide +kernel
theorem dL_law_969 : decode cL_law 969 = .ok (.ireturn, 1) := by decide +kernel
theorem dL_law_970 : decode cL_law 970 = .ok (.aload_n 1, 1) := by decide +kernel
theorem dL_law_971 : decode cL_law 971 = .ok (.aload_n 0, 1) := by decide +kernel
theorem dL_law_972 : decode cL_law 972 = .ok (.iload_n 3, 1) := by decide +kernel
theorem dL_law_973 : decode cL_law 973 = .ok (.iconst 1, 1) := by decide +kernel
theorem dL_law_974 : decode cL_law 974 = .ok (.iadd, 1) := by decide +kernel
theorem dL_law_975 : decode cL_law 975 = .ok (.iaload, 1) := by decide +kernel
theorem dL_law_976 : decode cL_law 976 = .ok (.invokevirtual 123, 3) := by decide +kernel
theorem dL_law_979 : decode cL_law 979 = .ok (.aload_n 2, 1) := by decide +kernel
theorem dL_law_980 : decode cL_law 980 = .ok (.aload_n 0, 1) := by decide +kernel
theorem dL_law_981 : decode cL_law 981 = .ok (.iload_n 3, 1) := by decide +kernel
theorem dL_law_982 : decode cL_law 982 = .ok (.iconst 1, 1) := by decide +kernel
theorem dL_law_983 : decode cL_law 983 = .ok (.iadd, 1) := by decide +kernel
theorem dL_law_984 : decode cL_law 984 = .ok (.iaload, 1) := by decide +kernel
theorem dL_law_985 : decode cL_law 985 = .ok (.invokevirtual 126, 3) := by decide +kernel
theorem dL_law_988 : decode cL_law 988 = .ok (.if_icmp .eq 51, 3) := by decide +kernel
theorem dL_law_991 : decode cL_law 991 = .ok (.iconst 0, 1) := by decide +kernel
theorem dL_law_992 : decode cL_law 992 = .ok (.ireturn, 1) := by decide +kernel
theorem dL_law_993 : decode cL_law 993 = .ok (.aload_n 1, 1) := by decide +kernel
theorem dL_law_994 : decode cL_law 994 = .ok (.aload_n 0, 1) := by decide +kernel
theorem dL_law_995 : decode cL_law 995 = .ok (.iload_n 3, 1) := by decide +kernel
theorem dL_law_996 : decode cL_law 996 = .ok (.iconst 1, 1) := by decide +kernel
theorem dL_law_997 : decode cL_law 997 = .ok (.iadd, 1) := by decide +kernel
theorem dL_law_998 : decode cL_law 998 = .ok (.iaload, 1) := by decide +kernel
theorem dL_law_999 : decode cL_law 999 = .ok (.invokevirtual 127, 3) := by decide +kernel
theorem dL_law_1002 : decode cL_law 1002 = .ok (.aload_n 2, 1) := by decide +kernel
theorem dL_law_1003 : decode cL_law 1003 = .ok (.aload_n 0, 1) := by decide +kernel
theorem dL_law_1004 : decode cL_law 1004 = .ok (.iload_n 3, 1) := by decide +kernel
theorem dL_law_1005 : decode cL_law 1005 = .ok (.iconst 1, 1) := by decide +kernel
theorem dL_law_1006 : decode cL_law 1006 = .ok (.iadd, 1) := by decide +kernel
theorem dL_law_1007 : decode cL_law 1007 = .ok (.iaload, 1) := by decide +kernel
theorem dL_law_1008 : decode cL_law 1008 = .ok (.invokevirtual 130, 3) := by decide +kernel
theorem dL_law_1011 : decode cL_law 1011 = .ok (.if_icmp .eq 28, 3) := by decide +kernel
theorem dL_law_1014 : decode cL_law 1014 = .ok (.iconst 0, 1) := by decide +kernel
theorem dL_law_1015 : decode cL_law 1015 = .ok (.ireturn, 1) := by decide +kernel
theorem dL_law_1016 : decode cL_law 1016 = .ok (.aload_n 1, 1) := by decide +kernel
theorem dL_law_1017 : decode cL_law 1017 = .ok (.aload_n 0, 1) := by decide +kernel
theorem dL_law_1018 : decode cL_law 1018 = .ok (.iload_n 3, 1) := by decide +kernel
theorem dL_law_1019 : decode cL_law 1019 = .ok (.iconst 1, 1) := by decide +kernel
theorem dL_law_1020 : decode cL_law 1020 = .ok (.iadd, 1) := by decide +kernel
theorem dL_law_1021 : decode cL_law 1021 = .ok (.iaload, 1) := by decide +kernel
theorem dL_law_1022 : decode cL_law 1022 = .ok (.invokevirtual 131, 3) := by decide +kernel
theorem dL_law_1025 : decode cL_law 1025 = .ok (.aload_n 2, 1) := by decide +kernel
theorem dL_law_1026 : decode cL_law 1026 = .ok (.aload_n 0, 1) := by decide +kernel
theorem dL_law_1027 : decode cL_law 1027 = .ok (.iload_n 3, 1) := by decide +kernel
theorem dL_law_1028 : decode cL_law 1028 = .ok (.iconst 1, 1) := by decide +kernel
theorem dL_law_1029 : decode cL_law 1029 = .ok (.iadd, 1) := by decide +kernel
theorem dL_law_1030 : decode cL_law 1030 = .ok (.iaload, 1) := by decide +kernel
theorem dL_law_1031 : decode cL_law 1031 = .ok (.invokevirtual 134, 3) := by decide +kernel
theorem dL_law_1034 : decode cL_law 1034 = .ok (.if_icmp .eq 5, 3) := by decide +kernel
theorem dL_law_1037 : decode cL_law 1037 = .ok (.iconst 0, 1) := by decide +kernel
theorem dL_law_1038 : decode cL_law 1038 = .ok (.ireturn, 1) := by decide +kernel
theorem dL_law_1039 : decode cL_law 1039 = .ok (.iinc 3 4, 3) := by decide +kernel
theorem dL_law_1042 : decode cL_law 1042 = .ok (.goto (-1024), 3) := by decide +kernel
theorem dL_law_1045 : decode cL_law 1045 = .ok (.iconst 1, 1) := by decide +kernel
theorem dL_law_1046 : decode cL_law 1046 = .ok (.ireturn, 1) := by decide +kernel
end
section
section RT
variable {X : Cx} {r d : Nat} {M : Mth} {pc q : Nat} {loc : Lo} {w : Wd}
theorem R_ri {v : Int32} {P : Int32 → Wd → Prop} (hd : decode M.2.1 pc = .ok (.ireturn, 1)) (hr : M.2.2.2.1 = some .int) (h : P v w) : Wq X r d M pc loc [vI v] w (qI P) := R_iret hd hr ⟨v, rfl, h⟩
theorem R_rz {v : Int32} {P : Int32 → Wd → Prop} (hd : decode M.2.1 pc = .ok (.ireturn, 1)) (hr : M.2.2.2.1 = some .boolean) (hv : v &&& 1 = v) (h : P v w) : Wq X r d M pc loc [vI v] w (qI P) := R_zret hd hr hv ⟨v, rfl, h⟩
theorem R_rl {v : Int64} {P : Int64 → Wd → Prop} (hd : decode M.2.1 pc = .ok (.lreturn, 1)) (hr : M.2.2.2.1 = some .long) (h : P v w) : Wq X r d M pc loc [vL v] w (qL P) := R_lret hd hr ⟨v, rfl, h⟩
theorem R_rv {P : Wd → Prop} (hd : decode M.2.1 pc = .ok (.return_, 1)) (hr : M.2.2.2.1 = none) (h : P w) : Wq X r d M pc loc [] w (qV P) := R_vret hd hr ⟨rfl, h⟩
theorem Ct.monoI {as : List AV} {P P' : Int32 → Wd → Prop} (hy : plainName M.1.cls = true) (ho : M.1.cls = M.2.2.2.2) (h : Ct X r d M as w (qI P)) (hq : ∀ x w', P x w' → P' x w') : Ct X r d M as w (qI P') := h.mono hy ho (fun rv w' h => by obtain ⟨x, e, h⟩ := h; exact ⟨x, e, hq x w' h⟩)
theorem Ct.monoV {as : List AV} {P P' : Wd → Prop} (hy : plainName M.1.cls = true) (ho : M.1.cls = M.2.2.2.2) (h : Ct X r d M as w (qV P)) (hq : ∀ w', P w' → P' w') : Ct X r d M as w (qV P') := h.mono hy ho (fun rv w' h => ⟨h.1, hq w' h.2⟩)
end RT
theorem one7 : ∀ j, (fk 7 j).1 = 101 → j = 9 := by
  intro j h
  match j, h with
  | 9, _ => rfl
  | 0, h => exact absurd h (by decide)
  | 1, h => exact absurd h (by decide)
  | 2, h => exact absurd h (by decide)
  | 3, h => exact absurd h (by decide)
  | 4, h => exact absurd h (by decide)
  | 5, h => exact absurd h (by decide)
  | 6, h => exact absurd h (by decide)
  | 7, h => exact absurd h (by decide)
  | 8, h => exact absurd h (by decide)
  | n + 10, h => exact absurd h (by simp [fk])
theorem one8 : ∀ j, (fk 8 j).1 = 101 → j = 15 := by
  intro j h
  rcases Nat.lt_or_ge j 25 with hj | hj
  · have h2 : ∀ j, j < 25 → (fk 8 j).1 = 101 → j = 15 := by decide
    exact h2 j hj h
  · obtain ⟨n, rfl⟩ := Nat.exists_eq_add_of_le hj
    rw [Nat.add_comm] at h
    exact absurd h (by simp [fk])
/-! numbers of the machine that are numbers in a range -/
abbrev inN (x : Int32) (n : Nat) : Prop := ¬ x < 0 ∧ ¬ nI n ≤ x
theorem inN_ex {x : Int32} {n : Nat} (hn : n < 2 ^ 31) (h : inN x n) : ∃ j : Nat, j < n ∧ x = nI j := by
  obtain ⟨j, h1, h2, -⟩ := pk_mu h.1 h.2 hn
  exact ⟨j, h1, h2⟩
theorem inN_nI {j n : Nat} (hj : j < 2 ^ 31) (hn : n < 2 ^ 31) : inN (nI j) n ↔ j < n := by
  constructor
  · intro h
    exact Nat.not_le.mp fun h2 => h.2 (nI_le h2 hj)
  · intro h
    exact ⟨nI_pos hj, nI_ge h hn⟩
def fnU {α : Type} (f : Nat → α) (k : Nat) (v : α) : Nat → α := fun j => if j = k then v else f j
/-! a state's picture: rows, columns, shades, shift, lost, the rows of shades, their columns, dots -/
abbrev Pic : Type := Nat × Nat × Nat × Nat × Nat × (Nat → Nat) × (Nat → Nat) × (Nat → Nat)
abbrev pR (S : Pic) : Nat := S.1
abbrev pC (S : Pic) : Nat := S.2.1
abbrev pN (S : Pic) : Nat := S.2.2.1
abbrev pH (S : Pic) : Nat := S.2.2.2.1
abbrev pL (S : Pic) : Nat := S.2.2.2.2.1
abbrev pro (S : Pic) : Nat → Nat := S.2.2.2.2.2.1
abbrev pco (S : Pic) : Nat → Nat := S.2.2.2.2.2.2.1
abbrev pdt (S : Pic) : Nat → Nat := S.2.2.2.2.2.2.2
def StA (w : Wd) (p : List Nat) (S : Pic) : Prop := w.1 p 0 = nI (pR S) ∧ w.1 p 1 = nI (pC S) ∧ w.1 p 2 = nI (pN S) ∧ w.1 p 3 = nI (pH S) ∧ w.1 p 4 = nI (pL S) ∧ (∀ s, s < pN S → w.1 (5 :: p) s = nI (pro S s)) ∧ (∀ s, s < pN S → w.1 (6 :: p) s = nI (pco S s)) ∧ (∀ k, k < 16 → w.1 (7 :: p) k = nI (pdt S k))
/-- what holds of every state that is kept -/
def OKS (S : Pic) : Prop := (1 ≤ pR S ∧ pR S ≤ 6) ∧ (1 ≤ pC S ∧ pC S ≤ 6) ∧ pN S ≤ 20 ∧ pH S < 4 ∧ pL S < 16 ∧ (∀ s, s < pN S → pro S s < pR S ∧ pco S s < pC S) ∧ (∀ s t, s < t → t < pN S → ¬ (pro S s = pro S t ∧ pco S s = pco S t)) ∧ (∀ k, k < 16 → pdt S k < pN S ∨ (pdt S k = 0 ∧ pN S = 0))
/-- nothing has changed but the cells at F -/
def Fr (F : List (List Nat)) (w w' : Wd) : Prop := w'.2 = w.2 ∧ ∀ q, q ∉ F → w'.1 q = w.1 q
theorem Fr.rf {F : List (List Nat)} {w : Wd} : Fr F w w := ⟨rfl, fun _ _ => rfl⟩
theorem Fr.tr {F : List (List Nat)} {w w1 w2 : Wd} (h : Fr F w w1) (h2 : Fr F w1 w2) : Fr F w w2 := ⟨h2.1.trans h.1, fun q hq => (h2.2 q hq).trans (h.2 q hq)⟩
theorem Fr.up {F G : List (List Nat)} {w w1 : Wd} (h : Fr F w w1) (hs : ∀ q, q ∈ F → q ∈ G) : Fr G w w1 := ⟨h.1, fun q hq => h.2 q (fun h3 => hq (hs q h3))⟩
theorem Fr.i {F : List (List Nat)} {w : Wd} {p : List Nat} {k : Nat} {v : Int32} (h : p ∈ F) : Fr F w (uI w p k v) := ⟨rfl, fun _ hq => uA_ne (fun e => hq (e ▸ h))⟩
theorem Fr.a {F : List (List Nat)} {w : Wd} {p : List Nat} {f : Nat → Int32} (h : p ∈ F) : Fr F w (uA w p f) := ⟨rfl, fun _ hq => uA_ne (fun e => hq (e ▸ h))⟩
theorem StA.fr {F : List (List Nat)} {w w' : Wd} {p : List Nat} {S : Pic} (h : StA w p S) (hf : Fr F w w') (h0 : p ∉ F) (h5 : (5 :: p) ∉ F) (h6 : (6 :: p) ∉ F) (h7 : (7 :: p) ∉ F) : StA w' p S := by
  unfold StA
  rw [hf.2 _ h0, hf.2 _ h5, hf.2 _ h6, hf.2 _ h7]
  exact h
theorem cns {k : Nat} {p : List Nat} : (k :: p) ≠ p := fun h => by
  have := congrArg List.length h
  simp at this
theorem cns2 {k : Nat} {p : List Nat} : p ≠ (k :: p) := fun h => cns h.symm
end
section
section ST
variable {X : Cx} {d : Nat} {p : List Nat} {w : Wd}
theorem c_hasShade {x : Int32} {n : Nat} (hn : w.1 p 2 = nI n) : Ct X 0 d MX5_hasShade [vR 5 0 p, vI x] w (qI fun y w' => y = bI (inN x n) ∧ w' = w) := by
  refine Ct.of (by decide) rfl (Nat.le_of_ble_eq_true rfl) ?_
  show Wq _ _ _ _ 0 [(0, _), (1, _)] [] _ _
  refine R_iload_n (i := 1) (q := 1) dX5_hasShade_0 rfl rfl rfl ?_
  refine R_if_lt (tgt := 16) (q := 4) dX5_hasShade_1 (by decide) rfl (fun c1 => ?_) (fun c1 => ?_)
  · refine R_iconst (v := nI 0) (q := 17) dX5_hasShade_16 (by decide) rfl ?_
    refine R_rz dX5_hasShade_17 rfl (by decide) ?_
    exact ⟨(bI_f (fun h => h.1 c1)).symm, rfl⟩
  · refine R_iload_n (i := 1) (q := 5) dX5_hasShade_4 rfl rfl rfl ?_
    refine R_aload_n (i := 0) (q := 6) dX5_hasShade_5 rfl rfl rfl ?_
    refine R_getI' (q := 9) dX5_hasShade_6 fl_X5_31 rfl (hn) rfl ?_
    refine R_icmp_ge (tgt := 16) (q := 12) dX5_hasShade_9 (by decide) rfl (fun c2 => ?_) (fun c2 => ?_)
    · refine R_iconst (v := nI 0) (q := 17) dX5_hasShade_16 (by decide) rfl ?_
      refine R_rz dX5_hasShade_17 rfl (by decide) ?_
      exact ⟨(bI_f (fun h => h.2 c2)).symm, rfl⟩
    · refine R_iconst (v := nI 1) (q := 13) dX5_hasShade_12 (by decide) rfl ?_
      refine R_goto (q := 17) dX5_hasShade_13 (by decide) ?_
      refine R_rz dX5_hasShade_17 rfl (by decide) ?_
      exact ⟨(bI_t ⟨c1, c2⟩).symm, rfl⟩
theorem c_hasCell {x y : Int32} {a b : Nat} (ha : w.1 p 0 = nI a) (hb : w.1 p 1 = nI b) : Ct X 0 d MX5_hasCell [vR 5 0 p, vI x, vI y] w (qI fun z w' => z = bI (inN x a ∧ inN y b) ∧ w' = w) := by
  refine Ct.of (by decide) rfl (Nat.le_of_ble_eq_true rfl) ?_
  show Wq _ _ _ _ 0 [(0, _), (1, _), (2, _)] [] _ _
  refine R_iload_n (i := 1) (q := 1) dX5_hasCell_0 rfl rfl rfl ?_
  refine R_if_lt (tgt := 28) (q := 4) dX5_hasCell_1 (by decide) rfl (fun c1 => ?_) (fun c1 => ?_)
  · refine R_iconst (v := nI 0) (q := 29) dX5_hasCell_28 (by decide) rfl ?_
    refine R_rz dX5_hasCell_29 rfl (by decide) ?_
    exact ⟨(bI_f (fun h => h.1.1 c1)).symm, rfl⟩
  · refine R_iload_n (i := 1) (q := 5) dX5_hasCell_4 rfl rfl rfl ?_
    refine R_aload_n (i := 0) (q := 6) dX5_hasCell_5 rfl rfl rfl ?_
    refine R_getI' (q := 9) dX5_hasCell_6 fl_X5_9 rfl (ha) rfl ?_
    refine R_icmp_ge (tgt := 28) (q := 12) dX5_hasCell_9 (by decide) rfl (fun c2 => ?_) (fun c2 => ?_)
    · refine R_iconst (v := nI 0) (q := 29) dX5_hasCell_28 (by decide) rfl ?_
      refine R_rz dX5_hasCell_29 rfl (by decide) ?_
      exact ⟨(bI_f (fun h => h.1.2 c2)).symm, rfl⟩
    · refine R_iload_n (i := 2) (q := 13) dX5_hasCell_12 rfl rfl rfl ?_
      refine R_if_lt (tgt := 28) (q := 16) dX5_hasCell_13 (by decide) rfl (fun c3 => ?_) (fun c3 => ?_)
      · refine R_iconst (v := nI 0) (q := 29) dX5_hasCell_28 (by decide) rfl ?_
        refine R_rz dX5_hasCell_29 rfl (by decide) ?_
        exact ⟨(bI_f (fun h => h.2.1 c3)).symm, rfl⟩
      · refine R_iload_n (i := 2) (q := 17) dX5_hasCell_16 rfl rfl rfl ?_
        refine R_aload_n (i := 0) (q := 18) dX5_hasCell_17 rfl rfl rfl ?_
        refine R_getI' (q := 21) dX5_hasCell_18 fl_X5_15 rfl (hb) rfl ?_
        refine R_icmp_ge (tgt := 28) (q := 24) dX5_hasCell_21 (by decide) rfl (fun c4 => ?_) (fun c4 => ?_)
        · refine R_iconst (v := nI 0) (q := 29) dX5_hasCell_28 (by decide) rfl ?_
          refine R_rz dX5_hasCell_29 rfl (by decide) ?_
          exact ⟨(bI_f (fun h => h.2.2 c4)).symm, rfl⟩
        · refine R_iconst (v := nI 1) (q := 25) dX5_hasCell_24 (by decide) rfl ?_
          refine R_goto (q := 29) dX5_hasCell_25 (by decide) ?_
          refine R_rz dX5_hasCell_29 rfl (by decide) ?_
          exact ⟨(bI_t ⟨⟨c1, c2⟩, c3, c4⟩).symm, rfl⟩
theorem c_numbersOf {x : Int32} : Ct X 0 d MX5_numbersOf [vR 5 0 p, vI x] w (qI fun z w' => z = (if x = 0 then w.1 p 0 else w.1 p 1) ∧ w' = w) := by
  refine Ct.of (by decide) rfl (Nat.le_of_ble_eq_true rfl) ?_
  show Wq _ _ _ _ 0 [(0, _), (1, _)] [] _ _
  refine R_iload_n (i := 1) (q := 1) dX5_numbersOf_0 rfl rfl rfl ?_
  refine R_if_ne (tgt := 11) (q := 4) dX5_numbersOf_1 (by decide) rfl (fun c1 => ?_) (fun c1 => ?_)
  · refine R_aload_n (i := 0) (q := 12) dX5_numbersOf_11 rfl rfl rfl ?_
    refine R_getI (q := 15) dX5_numbersOf_12 fl_X5_15 rfl rfl ?_
    refine R_ri dX5_numbersOf_15 rfl ?_
    exact ⟨(if_neg c1).symm, rfl⟩
  · refine R_aload_n (i := 0) (q := 5) dX5_numbersOf_4 rfl rfl rfl ?_
    refine R_getI (q := 8) dX5_numbersOf_5 fl_X5_9 rfl rfl ?_
    refine R_goto (q := 15) dX5_numbersOf_8 (by decide) ?_
    refine R_ri dX5_numbersOf_15 rfl ?_
    exact ⟨(if_pos c1).symm, rfl⟩
theorem c_put {x y z : Int32} {n : Nat} (hn : w.1 p 2 = nI n) (hN : n ≤ 20) : Ct X 0 (d + 1) MX5_put [vR 5 0 p, vI x, vI y, vI z] w (qV fun w' => (¬ inN x n ∧ w' = w) ∨ ∃ s, s < n ∧ x = nI s ∧ w' = uI (uI w (5 :: p) s y) (6 :: p) s z) := by
  refine Ct.of (by decide) rfl (Nat.le_of_ble_eq_true rfl) ?_
  show Wq _ _ _ _ 0 [(0, _), (1, _), (2, _), (3, _)] [] _ _
  refine R_aload_n (i := 0) (q := 1) dX5_put_0 rfl rfl rfl ?_
  refine R_iload_n (i := 1) (q := 2) dX5_put_1 rfl rfl rfl ?_
  refine R_cV1i (M' := MX5_hasShade) (q := 5) dX5_put_2 ml_X5_61 mk_X5_hasShade (Nat.le_of_ble_eq_true rfl) rfl (c_hasShade hn) ?_
  rintro _ w ⟨rfl, rfl⟩
  refine R_if_eqB (tgt := 22) (q := 8) dX5_put_5 (by decide) rfl (fun c1 => ?_) (fun c1 => ?_)
  · refine R_rv dX5_put_22 rfl ?_
    exact Or.inl ⟨c1, rfl⟩
  · obtain ⟨s, hs, rfl⟩ := inN_ex (by omega) c1
    refine R_aload_n (i := 0) (q := 9) dX5_put_8 rfl rfl rfl ?_
    refine R_getR (q := 12) dX5_put_9 fl_X5_21 rfl (by decide) rfl ?_
    refine R_iload_n (i := 1) (q := 13) dX5_put_12 rfl rfl rfl ?_
    refine R_iload_n (i := 2) (q := 14) dX5_put_13 rfl rfl rfl ?_
    refine R_iast (q := 15) dX5_put_14 (rfl) (by omega) (by decide) rfl ?_
    refine R_aload_n (i := 0) (q := 16) dX5_put_15 rfl rfl rfl ?_
    refine R_getR (q := 19) dX5_put_16 fl_X5_25 rfl (by decide) rfl ?_
    refine R_iload_n (i := 1) (q := 20) dX5_put_19 rfl rfl rfl ?_
    refine R_iload_n (i := 3) (q := 21) dX5_put_20 rfl rfl rfl ?_
    refine R_iast (q := 22) dX5_put_21 (rfl) (by omega) (by decide) rfl ?_
    refine R_rv dX5_put_22 rfl ?_
    exact Or.inr ⟨s, hs, rfl, rfl⟩
/-- the shade in a cell -/
def ShA (S : Pic) (r0 c0 : Nat) (x : Int32) : Prop := (∃ s, s < pN S ∧ pro S s = r0 ∧ pco S s = c0 ∧ x = nI s) ∨ ((∀ s, s < pN S → ¬ (pro S s = r0 ∧ pco S s = c0)) ∧ x = -9)
theorem l_shadeIn {S : Pic} {r0 c0 : Nat} (hS : StA w p S) (hN : pN S ≤ 20) (hr : r0 < 2 ^ 31) (hc : c0 < 2 ^ 31) (hb : ∀ s, s < pN S → pro S s < 2 ^ 31 ∧ pco S s < 2 ^ 31) : ∀ (k i : Nat), pN S ≤ i + k → i ≤ pN S → (∀ s, s < i → ¬ (pro S s = r0 ∧ pco S s = c0)) → Wq X 0 d MX5_shadeIn 2 [(3, vI (nI i)), (0, vR 5 0 p), (1, vI (nI r0)), (2, vI (nI c0))] [] w (qI fun x w' => ShA S r0 c0 x ∧ w' = w) := by
  obtain ⟨hR, hC, hn, hs, hl, hro, hco, hdt⟩ := id hS
  intro k
  induction k with
  | zero =>
    intro i h1 h2 h3
    refine R_iload_n (i := 3) (q := 3) dX5_shadeIn_2 rfl rfl rfl ?_
    refine R_aload_n (i := 0) (q := 4) dX5_shadeIn_3 rfl rfl rfl ?_
    refine R_getI' (q := 7) dX5_shadeIn_4 fl_X5_31 rfl (hn) rfl ?_
    refine R_icmp_geN (by omega) (by omega) (tgt := 38) (q := 10) dX5_shadeIn_7 (by decide) rfl (fun c1 => ?_) (fun c1 => ?_)
    · refine R_bipush (v := (-9)) (q := 40) dX5_shadeIn_38 (by decide) rfl ?_
      refine R_ri dX5_shadeIn_40 rfl ?_
      exact ⟨Or.inr ⟨fun s hs => h3 s (by omega), rfl⟩, rfl⟩
    · omega
  | succ k ih =>
    intro i h1 h2 h3
    refine R_iload_n (i := 3) (q := 3) dX5_shadeIn_2 rfl rfl rfl ?_
    refine R_aload_n (i := 0) (q := 4) dX5_shadeIn_3 rfl rfl rfl ?_
    refine R_getI' (q := 7) dX5_shadeIn_4 fl_X5_31 rfl (hn) rfl ?_
    refine R_icmp_geN (by omega) (by omega) (tgt := 38) (q := 10) dX5_shadeIn_7 (by decide) rfl (fun c1 => ?_) (fun c1 => ?_)
    · refine R_bipush (v := (-9)) (q := 40) dX5_shadeIn_38 (by decide) rfl ?_
      refine R_ri dX5_shadeIn_40 rfl ?_
      exact ⟨Or.inr ⟨fun s hs => h3 s (by omega), rfl⟩, rfl⟩
    · have hbi := hb i c1
      refine R_aload_n (i := 0) (q := 11) dX5_shadeIn_10 rfl rfl rfl ?_
      refine R_getR (q := 14) dX5_shadeIn_11 fl_X5_21 rfl (by decide) rfl ?_
      refine R_iload_n (i := 3) (q := 15) dX5_shadeIn_14 rfl rfl rfl ?_
      refine R_iald' (q := 16) dX5_shadeIn_15 (rfl) (by omega) (by decide) (hro i c1) rfl ?_
      refine R_iload_n (i := 1) (q := 17) dX5_shadeIn_16 rfl rfl rfl ?_
      refine R_icmp_neN (by omega) (by omega) (tgt := 32) (q := 20) dX5_shadeIn_17 (by decide) rfl (fun c2 => ?_) (fun c2 => ?_)
      · first | refine R_iincN (q := 35) (loc' := [(3, _), (0, _), (1, _), (2, _)]) dX5_shadeIn_32 (by rfl) (by decide) (by rfl) rfl ?_ | refine R_iinc (q := 35) (loc' := [(3, _), (0, _), (1, _), (2, _)]) dX5_shadeIn_32 (by rfl) (by rfl) (by decide) (by rfl) rfl ?_
        refine R_goto (q := 2) dX5_shadeIn_35 (by decide) ?_
        exact ih (i + 1) (by omega) (by omega) (fun s hs => by
          rcases Nat.lt_or_ge s i with h | h
          · exact h3 s h
          · obtain rfl : s = i := by omega
            exact fun h => c2 h.1)
      · refine R_aload_n (i := 0) (q := 21) dX5_shadeIn_20 rfl rfl rfl ?_
        refine R_getR (q := 24) dX5_shadeIn_21 fl_X5_25 rfl (by decide) rfl ?_
        refine R_iload_n (i := 3) (q := 25) dX5_shadeIn_24 rfl rfl rfl ?_
        refine R_iald' (q := 26) dX5_shadeIn_25 (rfl) (by omega) (by decide) (hco i c1) rfl ?_
        refine R_iload_n (i := 2) (q := 27) dX5_shadeIn_26 rfl rfl rfl ?_
        refine R_icmp_neN (by omega) (by omega) (tgt := 32) (q := 30) dX5_shadeIn_27 (by decide) rfl (fun c3 => ?_) (fun c3 => ?_)
        · first | refine R_iincN (q := 35) (loc' := [(3, _), (0, _), (1, _), (2, _)]) dX5_shadeIn_32 (by rfl) (by decide) (by rfl) rfl ?_ | refine R_iinc (q := 35) (loc' := [(3, _), (0, _), (1, _), (2, _)]) dX5_shadeIn_32 (by rfl) (by rfl) (by decide) (by rfl) rfl ?_
          refine R_goto (q := 2) dX5_shadeIn_35 (by decide) ?_
          exact ih (i + 1) (by omega) (by omega) (fun s hs => by
            rcases Nat.lt_or_ge s i with h | h
            · exact h3 s h
            · obtain rfl : s = i := by omega
              exact fun h => c3 h.2)
        · refine R_iload_n (i := 3) (q := 31) dX5_shadeIn_30 rfl rfl rfl ?_
          refine R_ri dX5_shadeIn_31 rfl ?_
          exact ⟨Or.inl ⟨i, c1, c2, c3, rfl⟩, rfl⟩
theorem c_shadeIn {S : Pic} {r0 c0 : Nat} (hS : StA w p S) (hN : pN S ≤ 20) (hr : r0 < 2 ^ 31) (hc : c0 < 2 ^ 31) (hb : ∀ s, s < pN S → pro S s < 2 ^ 31 ∧ pco S s < 2 ^ 31) : Ct X 0 d MX5_shadeIn [vR 5 0 p, vI (nI r0), vI (nI c0)] w (qI fun x w' => ShA S r0 c0 x ∧ w' = w) := by
  refine Ct.of (by decide) rfl (Nat.le_of_ble_eq_true rfl) ?_
  show Wq _ _ _ _ 0 [(0, _), (1, _), (2, _)] [] _ _
  refine R_iconst (v := nI 0) (q := 1) dX5_shadeIn_0 (by decide) rfl ?_
  refine R_istore_n (i := 3) (q := 2) (loc' := [(3, _), (0, _), (1, _), (2, _)]) dX5_shadeIn_1 rfl (by decide) (by rfl) rfl ?_
  exact l_shadeIn hS hN hr hc hb (pN S) 0 (by omega) (by omega) (fun s hs => absurd hs (Nat.not_lt_zero s))
end ST
end
section
/-! counts and sums -/
def ct (f : Nat → Bool) : Nat → Nat
  | 0 => 0
  | n + 1 => ct f n + (if f n then 1 else 0)
def sm (f : Nat → Nat) : Nat → Nat
  | 0 => 0
  | n + 1 => sm f n + f n
theorem ct_le (f : Nat → Bool) : ∀ n, ct f n ≤ n
  | 0 => Nat.le_refl _
  | n + 1 => by
    have h := ct_le f n
    simp only [ct]
    split <;> omega
theorem ct_cg {f g : Nat → Bool} : ∀ {n : Nat}, (∀ k, k < n → f k = g k) → ct f n = ct g n
  | 0, _ => rfl
  | n + 1, h => by
    simp only [ct]
    rw [ct_cg (fun k hk => h k (by omega)), h n (by omega)]
theorem sm_cg {f g : Nat → Nat} : ∀ {n : Nat}, (∀ k, k < n → f k = g k) → sm f n = sm g n
  | 0, _ => rfl
  | n + 1, h => by
    simp only [sm]
    rw [sm_cg (fun k hk => h k (by omega)), h n (by omega)]
theorem sm_bd {f : Nat → Nat} {c : Nat} : ∀ {n : Nat}, (∀ k, k < n → f k ≤ c) → sm f n ≤ n * c
  | 0, _ => by simp [sm]
  | n + 1, h => by
    have h1 := sm_bd (n := n) (fun k hk => h k (by omega))
    have h2 := h n (by omega)
    simp only [sm, Nat.succ_mul]
    omega
def dst (a b : Nat) : Nat := if a ≤ b then b - a else a - b
def sq (a b : Nat) : Nat := dst a b * dst a b
theorem nI_neg {a b : Nat} (h : a ≤ b) : -(nI a - nI b) = nI (b - a) := by
  rw [← pk_sub h]
  simp [Int32.sub_eq_add_neg, Int32.neg_add, Int32.neg_neg, Int32.add_comm]
theorem abs_dst {a b : Nat} (ha : a < 2 ^ 30) (hb : b < 2 ^ 30) : (if nI a - nI b < 0 then -(nI a - nI b) else nI a - nI b) = nI (dst a b) := by
  unfold dst
  rcases Nat.lt_or_ge a b with h | h
  · rw [if_pos (pk_sneg hb h), if_pos (Nat.le_of_lt h), nI_neg (Nat.le_of_lt h)]
  · rw [pk_sub h, if_neg (nI_pos (by omega))]
    by_cases h2 : a ≤ b
    · rw [if_pos h2]
      congr 1
      omega
    · rw [if_neg h2]
theorem sq_nI (a b : Nat) : (nI a - nI b) * (nI a - nI b) = nI (sq a b) := by
  unfold sq dst
  split
  · rename_i h
    rw [← pk_mul, ← nI_neg h, Int32.neg_mul, Int32.mul_neg, Int32.neg_neg]
  · rename_i h
    rw [← pk_mul, pk_sub (by omega)]
theorem sub_in {a b c : Nat} (ha : a < 2 ^ 30) (hb : b < 2 ^ 30) (hc : c < 2 ^ 30) : inN (nI a - nI b) c ↔ b ≤ a ∧ a - b < c := by
  constructor
  · intro h
    have h1 : b ≤ a := Nat.not_lt.mp fun h2 => h.1 (pk_sneg hb h2)
    refine ⟨h1, ?_⟩
    rw [pk_sub h1] at h
    exact (inN_nI (by omega) (by omega)).mp h
  · intro h
    rw [pk_sub h.1]
    exact (inN_nI (by omega) (by omega)).mpr h.2
theorem mj_X7_266 : Cond.methodLink RX7 266 yJ9_max_7cf53 ∈ tbG := tg 381 (by decide +kernel) rfl
theorem mj_X5_69 : Cond.methodLink RX5 69 yJ9_abs_0f7a4 ∈ tbG := tg 392 (by decide +kernel) rfl
theorem mj_X7_286 : Cond.methodLink RX7 286 yJ9_abs_0f7a4 ∈ tbG := tg 556 (by decide +kernel) rfl
section JD
variable {X : Cx} {r d : Nat} {w : Wd}
theorem R_loc {M : Mth} {pc : Nat} {loc loc' : Lo} {stk : List AV} {Q : Option AV → Wd → Prop} (ks : List Nat) (h : ks.filterMap (fun k => loc[k]?) = loc') (k : Wq X r d M pc loc' stk w Q) : Wq X r d M pc loc stk w Q := by
  intro h1 h2 p e s m args below meth c H locs ls B hP hD hS hl
  have hsub : ∀ q, q ∈ loc' → q ∈ loc := fun q hq => by
    rw [← h] at hq
    obtain ⟨j, -, hj⟩ := List.mem_filterMap.mp hq
    exact List.mem_of_getElem? hj
  refine k (fun q hq => h1 q (hsub q hq)) h2 p e s m args below meth c H locs ls B hP hD hS ⟨hl.1, hl.2.1, fun q hq => ?_⟩
  obtain ⟨q0, h3, h4⟩ := List.mem_map.mp hq
  exact hl.2.2 q (List.mem_map.mpr ⟨q0, hsub q0 h3, h4⟩)
theorem R_mabs {M : Mth} {pc q i : Nat} {loc : Lo} {stk : List AV} {Q : Option AV → Wd → Prop} {x : Int32} (hd : decode M.2.1 pc = .ok (.invokestatic i, 3)) (hl0 : Cond.methodLink M.2.2.2.2 i yJ9_abs_0f7a4 ∈ tbG) (hm : mokS MJ9_abs_0f7a4 1) (hc : (stk.map cat).sum ≤ 8) (hq : pc + 3 = q) (k : Wq X r (d + 1) M q loc (vI (if x < 0 then -x else x) :: stk) w Q) : Wq X r (d + 1) M pc loc (vI x :: stk) w Q := by
  subst hq
  intro h1 h2 p e s m args below meth c H locs ls B hP hD hS hl
  have hts := B.2.2.2.2.2.2.1
  refine va_mabs (rest := stk.map (con X)) B.1 B.2.1 (B.2.2.1.trans hl.1.symm) B.2.2.2.2.2.1 (hts _ hl0) (hts _ hm.1) (hts _ hm.2.1) (hts _ hm.2.2.1) (Nat.le_add_left 1 d) ?_ (Nat.zero_le _) (Nat.zero_le _) hd ?_
  · rw [con_sum]
    show _ ≤ 40 * (d + 1)
    omega
  · have e9 : (if 0 ≤ x then x else 0 - x) = (if x < 0 then -x else x) := by
      by_cases h : x < 0
      · rw [if_pos h, if_neg (fun h3 => by rw [Int32.lt_iff_toInt_lt] at h; rw [Int32.le_iff_toInt_le] at h3; omega), Int32.zero_sub]
      · rw [if_neg h, if_pos (by rw [Int32.lt_iff_toInt_lt] at h; rw [Int32.le_iff_toInt_le]; omega)]
    rw [e9]
    exact k h1 h2.tl.i p e s m args below meth c H locs ls B hP hD hS hl
theorem R_mmax {M : Mth} {pc q i : Nat} {loc : Lo} {stk : List AV} {Q : Option AV → Wd → Prop} {x y : Int32} (hd : decode M.2.1 pc = .ok (.invokestatic i, 3)) (hl0 : Cond.methodLink M.2.2.2.2 i yJ9_max_7cf53 ∈ tbG) (hm : mokS MJ9_max_7cf53 2) (hc : (stk.map cat).sum ≤ 8) (hq : pc + 3 = q) (k : Wq X r (d + 1) M q loc (vI (if x < y then y else x) :: stk) w Q) : Wq X r (d + 1) M pc loc (vI y :: vI x :: stk) w Q := by
  subst hq
  intro h1 h2 p e s m args below meth c H locs ls B hP hD hS hl
  have hts := B.2.2.2.2.2.2.1
  refine va_mmax (rest := stk.map (con X)) B.1 B.2.1 (B.2.2.1.trans hl.1.symm) B.2.2.2.2.2.1 (hts _ hl0) (hts _ hm.1) (hts _ hm.2.1) (hts _ hm.2.2.1) (Nat.le_add_left 1 d) ?_ (Nat.zero_le _) (Nat.zero_le _) hd (k h1 h2.tl.tl.i p e s m args below meth c H locs ls B hP hD hS hl)
  rw [con_sum]
  show _ ≤ 40 * (d + 1)
  omega
theorem l_fill {n : Nat} {pa : List Nat} {x : Int32} (hn : n < 2 ^ 31) : ∀ (k i : Nat), n ≤ i + k → i ≤ n → Wq X r d MJ7_fill_53178 5 [(3, vI (nI n)), (2, vI (nI i)), (0, vR 9 n pa), (1, vI x)] [] (uA w pa (fun j => if j < i then x else w.1 pa j)) (qV fun w' => w' = uA w pa (fun j => if j < n then x else w.1 pa j)) := by
  intro k
  induction k with
  | zero =>
    intro i h1 h2
    refine R_iload_n (i := 2) (q := 6) dJ7_fill_53178_5 rfl rfl rfl ?_
    refine R_iload_n (i := 3) (q := 7) dJ7_fill_53178_6 rfl rfl rfl ?_
    refine R_icmp_geN (by omega) (by omega) (tgt := 20) (q := 10) dJ7_fill_53178_7 (by decide) rfl (fun c1 => ?_) (fun c1 => ?_)
    · refine R_rv dJ7_fill_53178_20 rfl ?_
      obtain rfl : i = n := by omega
      rfl
    · omega
  | succ k ih =>
    intro i h1 h2
    refine R_iload_n (i := 2) (q := 6) dJ7_fill_53178_5 rfl rfl rfl ?_
    refine R_iload_n (i := 3) (q := 7) dJ7_fill_53178_6 rfl rfl rfl ?_
    refine R_icmp_geN (by omega) (by omega) (tgt := 20) (q := 10) dJ7_fill_53178_7 (by decide) rfl (fun c1 => ?_) (fun c1 => ?_)
    · refine R_rv dJ7_fill_53178_20 rfl ?_
      obtain rfl : i = n := by omega
      rfl
    · refine R_aload_n (i := 0) (q := 11) dJ7_fill_53178_10 rfl rfl rfl ?_
      refine R_iload_n (i := 2) (q := 12) dJ7_fill_53178_11 rfl rfl rfl ?_
      refine R_iload_n (i := 1) (q := 13) dJ7_fill_53178_12 rfl rfl rfl ?_
      refine R_iast (q := 14) dJ7_fill_53178_13 rfl c1 hn rfl ?_
      first | refine R_iincN (q := 17) (loc' := [(2, _), (3, _), (0, _), (1, _)]) dJ7_fill_53178_14 (by rfl) (by decide) (by rfl) rfl ?_ | refine R_iinc (q := 17) (loc' := [(2, _), (3, _), (0, _), (1, _)]) dJ7_fill_53178_14 (by rfl) (by rfl) (by decide) (by rfl) rfl ?_
      refine R_goto (q := 5) dJ7_fill_53178_17 (by decide) ?_
      have e : uI (uA w pa (fun j => if j < i then x else w.1 pa j)) pa i x = uA w pa (fun j => if j < i + 1 then x else w.1 pa j) := by
        unfold uI uA
        dsimp only
        congr 1
        funext q
        by_cases hq : q = pa
        · simp only [if_pos hq, if_true]
          funext j
          simp only [upd]
          by_cases hj : j = i
          · rw [if_pos hj, if_pos (by omega)]
          · rw [if_neg hj]
            by_cases h3 : j < i
            · rw [if_pos h3, if_pos (by omega)]
            · rw [if_neg h3, if_neg (by omega)]
        · simp only [if_neg hq]
      rw [e]
      refine R_loc [1, 0, 2, 3] (loc' := [(3, _), (2, _), (0, _), (1, _)]) (by rfl) ?_
      exact ih (i + 1) (by omega) c1
theorem c_fill {n : Nat} {pa : List Nat} {x : Int32} (hn : n < 2 ^ 31) : Ct X r d MJ7_fill_53178 [vR 9 n pa, vI x] w (qV fun w' => w' = uA w pa (fun j => if j < n then x else w.1 pa j)) := by
  refine Ct.of (by decide) rfl (Nat.le_of_ble_eq_true rfl) ?_
  show Wq _ _ _ _ 0 [(0, _), (1, _)] [] _ _
  refine R_iconst (v := nI 0) (q := 1) dJ7_fill_53178_0 (by decide) rfl ?_
  refine R_istore_n (i := 2) (q := 2) (loc' := [(2, _), (0, _), (1, _)]) dJ7_fill_53178_1 rfl (by decide) (by rfl) rfl ?_
  refine R_aload_n (i := 0) (q := 3) dJ7_fill_53178_2 rfl rfl rfl ?_
  refine R_alen (q := 4) dJ7_fill_53178_3 rfl ?_
  refine R_istore_n (i := 3) (q := 5) (loc' := [(3, _), (2, _), (0, _), (1, _)]) dJ7_fill_53178_4 rfl (by decide) (by rfl) rfl ?_
  have e : uA w pa (fun j => if j < 0 then x else w.1 pa j) = w := by
    unfold uA
    have : (fun q => if q = pa then (fun j => if j < 0 then x else w.1 pa j) else w.1 q) = w.1 := by
      funext q
      by_cases hq : q = pa
      · rw [if_pos hq, hq]
        funext j
        simp
      · rw [if_neg hq]
    rw [this]
  have h := l_fill (X := X) (r := r) (d := d) (w := w) (pa := pa) (x := x) hn n 0 (by omega) (by omega)
  rw [e] at h
  exact h
end JD
section ST
variable {X : Cx} {d : Nat} {p : List Nat} {w : Wd}
theorem c_copy {q : List Nat} {S : Pic} (hS : StA w q S) (hn : pN S ≤ 20) (hpq : p ≠ q) (hq : ∀ k, k :: q ≠ p) : Ct X 0 (d + 1) MX5_copy [vR 5 0 p, vR 5 0 q] w (qV fun w' => StA w' p S ∧ Fr [p, 5 :: p, 6 :: p, 7 :: p] w w') := by
  refine Ct.of (by decide) rfl (Nat.le_of_ble_eq_true rfl) ?_
  show Wq _ _ _ _ 0 [(0, _), (1, _)] [] _ _
  refine R_aload_n (i := 0) (q := 1) dX5_copy_0 rfl rfl rfl ?_
  refine R_aload_n (i := 1) (q := 2) dX5_copy_1 rfl rfl rfl ?_
  refine R_getI (q := 5) dX5_copy_2 fl_X5_9 rfl rfl ?_
  refine R_putI (q := 8) dX5_copy_5 fl_X5_9 rfl rfl ?_
  refine R_aload_n (i := 0) (q := 9) dX5_copy_8 rfl rfl rfl ?_
  refine R_aload_n (i := 1) (q := 10) dX5_copy_9 rfl rfl rfl ?_
  refine R_getI (q := 13) dX5_copy_10 fl_X5_15 rfl rfl ?_
  refine R_putI (q := 16) dX5_copy_13 fl_X5_15 rfl rfl ?_
  refine R_aload_n (i := 0) (q := 17) dX5_copy_16 rfl rfl rfl ?_
  refine R_aload_n (i := 1) (q := 18) dX5_copy_17 rfl rfl rfl ?_
  refine R_getI (q := 21) dX5_copy_18 fl_X5_31 rfl rfl ?_
  refine R_putI (q := 24) dX5_copy_21 fl_X5_31 rfl rfl ?_
  refine R_aload_n (i := 0) (q := 25) dX5_copy_24 rfl rfl rfl ?_
  refine R_aload_n (i := 1) (q := 26) dX5_copy_25 rfl rfl rfl ?_
  refine R_getI (q := 29) dX5_copy_26 fl_X5_18 rfl rfl ?_
  refine R_putI (q := 32) dX5_copy_29 fl_X5_18 rfl rfl ?_
  refine R_aload_n (i := 0) (q := 33) dX5_copy_32 rfl rfl rfl ?_
  refine R_aload_n (i := 1) (q := 34) dX5_copy_33 rfl rfl rfl ?_
  refine R_getI (q := 37) dX5_copy_34 fl_X5_34 rfl rfl ?_
  refine R_putI (q := 40) dX5_copy_37 fl_X5_34 rfl rfl ?_
  refine R_aload_n (i := 1) (q := 41) dX5_copy_40 rfl rfl rfl ?_
  refine R_getR (q := 44) dX5_copy_41 fl_X5_21 rfl (by decide) rfl ?_
  refine R_iconst (v := nI 0) (q := 45) dX5_copy_44 (by decide) rfl ?_
  refine R_aload_n (i := 0) (q := 46) dX5_copy_45 rfl rfl rfl ?_
  refine R_getR (q := 49) dX5_copy_46 fl_X5_21 rfl (by decide) rfl ?_
  refine R_iconst (v := nI 0) (q := 50) dX5_copy_49 (by decide) rfl ?_
  refine R_bipush (v := nI 20) (q := 52) dX5_copy_50 (by decide) rfl ?_
  refine R_copy (q := 55) dX5_copy_52 ac_X5_43 acw rfl rfl rfl (by decide) (by decide) (by decide) (Nat.le_of_ble_eq_true rfl) rfl ?_
  refine R_aload_n (i := 1) (q := 56) dX5_copy_55 rfl rfl rfl ?_
  refine R_getR (q := 59) dX5_copy_56 fl_X5_25 rfl (by decide) rfl ?_
  refine R_iconst (v := nI 0) (q := 60) dX5_copy_59 (by decide) rfl ?_
  refine R_aload_n (i := 0) (q := 61) dX5_copy_60 rfl rfl rfl ?_
  refine R_getR (q := 64) dX5_copy_61 fl_X5_25 rfl (by decide) rfl ?_
  refine R_iconst (v := nI 0) (q := 65) dX5_copy_64 (by decide) rfl ?_
  refine R_bipush (v := nI 20) (q := 67) dX5_copy_65 (by decide) rfl ?_
  refine R_copy (q := 70) dX5_copy_67 ac_X5_43 acw rfl rfl rfl (by decide) (by decide) (by decide) (Nat.le_of_ble_eq_true rfl) rfl ?_
  refine R_aload_n (i := 1) (q := 71) dX5_copy_70 rfl rfl rfl ?_
  refine R_getR (q := 74) dX5_copy_71 fl_X5_28 rfl (by decide) rfl ?_
  refine R_iconst (v := nI 0) (q := 75) dX5_copy_74 (by decide) rfl ?_
  refine R_aload_n (i := 0) (q := 76) dX5_copy_75 rfl rfl rfl ?_
  refine R_getR (q := 79) dX5_copy_76 fl_X5_28 rfl (by decide) rfl ?_
  refine R_iconst (v := nI 0) (q := 80) dX5_copy_79 (by decide) rfl ?_
  refine R_bipush (v := nI 16) (q := 82) dX5_copy_80 (by decide) rfl ?_
  refine R_copy (q := 85) dX5_copy_82 ac_X5_43 acw rfl rfl rfl (by decide) (by decide) (by decide) (Nat.le_of_ble_eq_true rfl) rfl ?_
  refine R_rv dX5_copy_85 rfl ?_
  obtain ⟨h0, h1, h2, h3, h4, h5, h6, h7⟩ := hS
  have hqp : ¬ q = p := fun h => hpq h.symm
  refine ⟨⟨?_, ?_, ?_, ?_, ?_, ?_, ?_, ?_⟩, ?_, ?_⟩
  · simp [uI, uA, upd, cns2, hpq, hqp, h0]
  · simp [uI, uA, upd, cns2, hpq, hqp, h1]
  · simp [uI, uA, upd, cns2, hpq, hqp, h2]
  · simp [uI, uA, upd, cns2, hpq, hqp, h3]
  · simp [uI, uA, upd, cns2, hpq, hqp, h4]
  · intro s hs
    have hs2 : s < 20 := by omega
    simp [uI, uA, upd, cns, cns2, hpq, hqp, hq, hs2, h5 s hs]
  · intro s hs
    have hs2 : s < 20 := by omega
    simp [uI, uA, upd, cns, cns2, hpq, hqp, hq, hs2, h6 s hs]
  · intro s hs
    simp [uI, uA, upd, cns, cns2, hpq, hqp, hq, hs, h7 s hs]
  · rfl
  · intro y hy
    simp only [List.mem_cons, List.not_mem_nil, or_false, not_or] at hy
    simp [uI, uA, hy.1, hy.2.1, hy.2.2.1, hy.2.2.2]
theorem c_renew (f g : Nat → Nat) : Ct X 0 (d + 1) MX5_renew [vR 5 0 p] w (qV fun w' => StA w' p (1, 1, 0, 1, 0, f, g, fun _ => 0) ∧ Fr [p, 7 :: p] w w') := by
  refine Ct.of (by decide) rfl (Nat.le_of_ble_eq_true rfl) ?_
  show Wq _ _ _ _ 0 [(0, _)] [] _ _
  refine R_aload_n (i := 0) (q := 1) dX5_renew_0 rfl rfl rfl ?_
  refine R_iconst (v := nI 1) (q := 2) dX5_renew_1 (by decide) rfl ?_
  refine R_putI (q := 5) dX5_renew_2 fl_X5_9 rfl rfl ?_
  refine R_aload_n (i := 0) (q := 6) dX5_renew_5 rfl rfl rfl ?_
  refine R_iconst (v := nI 1) (q := 7) dX5_renew_6 (by decide) rfl ?_
  refine R_putI (q := 10) dX5_renew_7 fl_X5_15 rfl rfl ?_
  refine R_aload_n (i := 0) (q := 11) dX5_renew_10 rfl rfl rfl ?_
  refine R_iconst (v := nI 0) (q := 12) dX5_renew_11 (by decide) rfl ?_
  refine R_putI (q := 15) dX5_renew_12 fl_X5_31 rfl rfl ?_
  refine R_aload_n (i := 0) (q := 16) dX5_renew_15 rfl rfl rfl ?_
  refine R_iconst (v := nI 1) (q := 17) dX5_renew_16 (by decide) rfl ?_
  refine R_putI (q := 20) dX5_renew_17 fl_X5_18 rfl rfl ?_
  refine R_aload_n (i := 0) (q := 21) dX5_renew_20 rfl rfl rfl ?_
  refine R_iconst (v := nI 0) (q := 22) dX5_renew_21 (by decide) rfl ?_
  refine R_putI (q := 25) dX5_renew_22 fl_X5_34 rfl rfl ?_
  refine R_aload_n (i := 0) (q := 26) dX5_renew_25 rfl rfl rfl ?_
  refine R_getR (q := 29) dX5_renew_26 fl_X5_28 rfl (by decide) rfl ?_
  refine R_iconst (v := nI 0) (q := 30) dX5_renew_29 (by decide) rfl ?_
  refine R_cS2v (M' := MJ7_fill_53178) (q := 33) dX5_renew_30 ml_X5_37 mk_J7_fill_53178 (Nat.le_of_ble_eq_true rfl) rfl (c_fill (by decide)) ?_
  rintro w rfl
  refine R_rv dX5_renew_33 rfl ?_
  refine ⟨⟨?_, ?_, ?_, ?_, ?_, ?_, ?_, ?_⟩, ?_, ?_⟩
  · simp [uI, uA, upd, cns2]
  · simp [uI, uA, upd, cns2]
  · simp [uI, uA, upd, cns2]
  · simp [uI, uA, upd, cns2]
  · simp [uI, uA, upd, cns2]
  · intro s hs
    exact absurd hs (Nat.not_lt_zero s)
  · intro s hs
    exact absurd hs (Nat.not_lt_zero s)
  · intro s hs
    simp [uI, uA, upd, hs]
  · rfl
  · intro y hy
    simp only [List.mem_cons, List.not_mem_nil, or_false, not_or] at hy
    simp [uI, uA, hy.1, hy.2]
theorem l_shadesInRow {S : Pic} {r0 : Nat} (hS : StA w p S) (hN : pN S ≤ 20) (hr : r0 < 2 ^ 31) (hb : ∀ s, s < pN S → pro S s < 2 ^ 31) : ∀ (k i : Nat), pN S ≤ i + k → i ≤ pN S → Wq X 0 d MX5_shadesInRow 4 [(3, vI (nI i)), (2, vI (nI (ct (fun s => pro S s == r0) i))), (0, vR 5 0 p), (1, vI (nI r0))] [] w (qI fun x w' => x = nI (ct (fun s => pro S s == r0) (pN S)) ∧ w' = w) := by
  obtain ⟨hR, hC, hn, hs, hl, hro, hco, hdt⟩ := id hS
  intro k
  induction k with
  | zero =>
    intro i h1 h2
    refine R_iload_n (i := 3) (q := 5) dX5_shadesInRow_4 rfl rfl rfl ?_
    refine R_aload_n (i := 0) (q := 6) dX5_shadesInRow_5 rfl rfl rfl ?_
    refine R_getI' (q := 9) dX5_shadesInRow_6 fl_X5_31 rfl (hn) rfl ?_
    refine R_icmp_geN (by omega) (by omega) (tgt := 31) (q := 12) dX5_shadesInRow_9 (by decide) rfl (fun c1 => ?_) (fun c1 => ?_)
    · refine R_iload_n (i := 2) (q := 32) dX5_shadesInRow_31 rfl rfl rfl ?_
      refine R_ri dX5_shadesInRow_32 rfl ?_
      obtain rfl : i = pN S := by omega
      exact ⟨rfl, rfl⟩
    · omega
  | succ k ih =>
    intro i h1 h2
    refine R_iload_n (i := 3) (q := 5) dX5_shadesInRow_4 rfl rfl rfl ?_
    refine R_aload_n (i := 0) (q := 6) dX5_shadesInRow_5 rfl rfl rfl ?_
    refine R_getI' (q := 9) dX5_shadesInRow_6 fl_X5_31 rfl (hn) rfl ?_
    refine R_icmp_geN (by omega) (by omega) (tgt := 31) (q := 12) dX5_shadesInRow_9 (by decide) rfl (fun c1 => ?_) (fun c1 => ?_)
    · refine R_iload_n (i := 2) (q := 32) dX5_shadesInRow_31 rfl rfl rfl ?_
      refine R_ri dX5_shadesInRow_32 rfl ?_
      obtain rfl : i = pN S := by omega
      exact ⟨rfl, rfl⟩
    · have hbi := hb i c1
      have e := ih (i + 1) (by omega) (by omega)
      simp only [ct] at e
      refine R_aload_n (i := 0) (q := 13) dX5_shadesInRow_12 rfl rfl rfl ?_
      refine R_getR (q := 16) dX5_shadesInRow_13 fl_X5_21 rfl (by decide) rfl ?_
      refine R_iload_n (i := 3) (q := 17) dX5_shadesInRow_16 rfl rfl rfl ?_
      refine R_iald' (q := 18) dX5_shadesInRow_17 (rfl) (by omega) (by decide) (hro i c1) rfl ?_
      refine R_iload_n (i := 1) (q := 19) dX5_shadesInRow_18 rfl rfl rfl ?_
      refine R_icmp_neN (by omega) (by omega) (tgt := 25) (q := 22) dX5_shadesInRow_19 (by decide) rfl (fun c2 => ?_) (fun c2 => ?_)
      · first | refine R_iincN (q := 28) (loc' := [(3, _), (2, _), (0, _), (1, _)]) dX5_shadesInRow_25 (by rfl) (by decide) (by rfl) rfl ?_ | refine R_iinc (q := 28) (loc' := [(3, _), (2, _), (0, _), (1, _)]) dX5_shadesInRow_25 (by rfl) (by rfl) (by decide) (by rfl) rfl ?_
        refine R_goto (q := 4) dX5_shadesInRow_28 (by decide) ?_
        rw [if_neg (by simpa using c2)] at e
        exact e
      · first | refine R_iincN (q := 25) (loc' := [(2, _), (3, _), (0, _), (1, _)]) dX5_shadesInRow_22 (by rfl) (by decide) (by rfl) rfl ?_ | refine R_iinc (q := 25) (loc' := [(2, _), (3, _), (0, _), (1, _)]) dX5_shadesInRow_22 (by rfl) (by rfl) (by decide) (by rfl) rfl ?_
        first | refine R_iincN (q := 28) (loc' := [(3, _), (2, _), (0, _), (1, _)]) dX5_shadesInRow_25 (by rfl) (by decide) (by rfl) rfl ?_ | refine R_iinc (q := 28) (loc' := [(3, _), (2, _), (0, _), (1, _)]) dX5_shadesInRow_25 (by rfl) (by rfl) (by decide) (by rfl) rfl ?_
        refine R_goto (q := 4) dX5_shadesInRow_28 (by decide) ?_
        rw [if_pos (by simpa using c2)] at e
        exact e
theorem c_shadesInRow {S : Pic} {r0 : Nat} (hS : StA w p S) (hN : pN S ≤ 20) (hr : r0 < 2 ^ 31) (hb : ∀ s, s < pN S → pro S s < 2 ^ 31) : Ct X 0 d MX5_shadesInRow [vR 5 0 p, vI (nI r0)] w (qI fun x w' => x = nI (ct (fun s => pro S s == r0) (pN S)) ∧ w' = w) := by
  refine Ct.of (by decide) rfl (Nat.le_of_ble_eq_true rfl) ?_
  show Wq _ _ _ _ 0 [(0, _), (1, _)] [] _ _
  refine R_iconst (v := nI 0) (q := 1) dX5_shadesInRow_0 (by decide) rfl ?_
  refine R_istore_n (i := 2) (q := 2) (loc' := [(2, _), (0, _), (1, _)]) dX5_shadesInRow_1 rfl (by decide) (by rfl) rfl ?_
  refine R_iconst (v := nI 0) (q := 3) dX5_shadesInRow_2 (by decide) rfl ?_
  refine R_istore_n (i := 3) (q := 4) (loc' := [(3, _), (2, _), (0, _), (1, _)]) dX5_shadesInRow_3 rfl (by decide) (by rfl) rfl ?_
  exact l_shadesInRow hS hN hr hb (pN S) 0 (by omega) (by omega)
theorem l_timesPainted {S : Pic} {r0 : Nat} (hS : StA w p S) (hr : r0 < 2 ^ 31) (hb : ∀ k, k < 16 → pdt S k < 2 ^ 31) : ∀ (k i : Nat), 16 ≤ i + k → i ≤ 16 → Wq X 0 d MX5_timesPainted 4 [(3, vI (nI i)), (2, vI (nI (ct (fun s => pdt S s == r0) i))), (0, vR 5 0 p), (1, vI (nI r0))] [] w (qI fun x w' => x = nI (ct (fun s => pdt S s == r0) 16) ∧ w' = w) := by
  obtain ⟨hR, hC, hn, hs, hl, hro, hco, hdt⟩ := id hS
  intro k
  induction k with
  | zero =>
    intro i h1 h2
    refine R_iload_n (i := 3) (q := 5) dX5_timesPainted_4 rfl rfl rfl ?_
    refine R_bipush (v := nI 16) (q := 7) dX5_timesPainted_5 (by decide) rfl ?_
    refine R_icmp_geN (by omega) (by omega) (tgt := 29) (q := 10) dX5_timesPainted_7 (by decide) rfl (fun c1 => ?_) (fun c1 => ?_)
    · refine R_iload_n (i := 2) (q := 30) dX5_timesPainted_29 rfl rfl rfl ?_
      refine R_ri dX5_timesPainted_30 rfl ?_
      obtain rfl : i = 16 := by omega
      exact ⟨rfl, rfl⟩
    · omega
  | succ k ih =>
    intro i h1 h2
    refine R_iload_n (i := 3) (q := 5) dX5_timesPainted_4 rfl rfl rfl ?_
    refine R_bipush (v := nI 16) (q := 7) dX5_timesPainted_5 (by decide) rfl ?_
    refine R_icmp_geN (by omega) (by omega) (tgt := 29) (q := 10) dX5_timesPainted_7 (by decide) rfl (fun c1 => ?_) (fun c1 => ?_)
    · refine R_iload_n (i := 2) (q := 30) dX5_timesPainted_29 rfl rfl rfl ?_
      refine R_ri dX5_timesPainted_30 rfl ?_
      obtain rfl : i = 16 := by omega
      exact ⟨rfl, rfl⟩
    · have hbi := hb i c1
      have e := ih (i + 1) (by omega) (by omega)
      simp only [ct] at e
      refine R_aload_n (i := 0) (q := 11) dX5_timesPainted_10 rfl rfl rfl ?_
      refine R_getR (q := 14) dX5_timesPainted_11 fl_X5_28 rfl (by decide) rfl ?_
      refine R_iload_n (i := 3) (q := 15) dX5_timesPainted_14 rfl rfl rfl ?_
      refine R_iald' (q := 16) dX5_timesPainted_15 (rfl) (by omega) (by decide) (hdt i c1) rfl ?_
      refine R_iload_n (i := 1) (q := 17) dX5_timesPainted_16 rfl rfl rfl ?_
      refine R_icmp_neN (by omega) (by omega) (tgt := 23) (q := 20) dX5_timesPainted_17 (by decide) rfl (fun c2 => ?_) (fun c2 => ?_)
      · first | refine R_iincN (q := 26) (loc' := [(3, _), (2, _), (0, _), (1, _)]) dX5_timesPainted_23 (by rfl) (by decide) (by rfl) rfl ?_ | refine R_iinc (q := 26) (loc' := [(3, _), (2, _), (0, _), (1, _)]) dX5_timesPainted_23 (by rfl) (by rfl) (by decide) (by rfl) rfl ?_
        refine R_goto (q := 4) dX5_timesPainted_26 (by decide) ?_
        rw [if_neg (by simpa using c2)] at e
        exact e
      · first | refine R_iincN (q := 23) (loc' := [(2, _), (3, _), (0, _), (1, _)]) dX5_timesPainted_20 (by rfl) (by decide) (by rfl) rfl ?_ | refine R_iinc (q := 23) (loc' := [(2, _), (3, _), (0, _), (1, _)]) dX5_timesPainted_20 (by rfl) (by rfl) (by decide) (by rfl) rfl ?_
        first | refine R_iincN (q := 26) (loc' := [(3, _), (2, _), (0, _), (1, _)]) dX5_timesPainted_23 (by rfl) (by decide) (by rfl) rfl ?_ | refine R_iinc (q := 26) (loc' := [(3, _), (2, _), (0, _), (1, _)]) dX5_timesPainted_23 (by rfl) (by rfl) (by decide) (by rfl) rfl ?_
        refine R_goto (q := 4) dX5_timesPainted_26 (by decide) ?_
        rw [if_pos (by simpa using c2)] at e
        exact e
theorem c_timesPainted {S : Pic} {r0 : Nat} (hS : StA w p S) (hr : r0 < 2 ^ 31) (hb : ∀ k, k < 16 → pdt S k < 2 ^ 31) : Ct X 0 d MX5_timesPainted [vR 5 0 p, vI (nI r0)] w (qI fun x w' => x = nI (ct (fun s => pdt S s == r0) 16) ∧ w' = w) := by
  refine Ct.of (by decide) rfl (Nat.le_of_ble_eq_true rfl) ?_
  show Wq _ _ _ _ 0 [(0, _), (1, _)] [] _ _
  refine R_iconst (v := nI 0) (q := 1) dX5_timesPainted_0 (by decide) rfl ?_
  refine R_istore_n (i := 2) (q := 2) (loc' := [(2, _), (0, _), (1, _)]) dX5_timesPainted_1 rfl (by decide) (by rfl) rfl ?_
  refine R_iconst (v := nI 0) (q := 3) dX5_timesPainted_2 (by decide) rfl ?_
  refine R_istore_n (i := 3) (q := 4) (loc' := [(3, _), (2, _), (0, _), (1, _)]) dX5_timesPainted_3 rfl (by decide) (by rfl) rfl ?_
  exact l_timesPainted hS hr hb 16 0 (by omega) (by omega)
end ST
end
section
/-! cells within b of the slope, and their order -/
def cw (C b : Nat) : Nat → Nat
  | 0 => 0
  | r + 1 => cw C b r + ct (fun c => decide (dst r c ≤ b)) C
def laR (C b t : Nat) (acc : List (Nat × Nat)) : Nat → List (Nat × Nat)
  | 0 => acc
  | r + 1 => if r ≤ t ∧ t - r < C ∧ dst r (t - r) ≤ b then laR C b t acc r ++ [(r, t - r)] else laR C b t acc r
def laT (R C b : Nat) : Nat → List (Nat × Nat)
  | 0 => []
  | t + 1 => laR C b t (laT R C b t) R
/-- shades laid in these cells, as far as there are cells -/
def layP (S : Pic) (L : List (Nat × Nat)) : Pic := (pR S, pC S, pN S, pH S, pL S, (fun s => if s < L.length then (L.getD s (0, 0)).1 else pro S s), (fun s => if s < L.length then (L.getD s (0, 0)).2 else pco S s), pdt S)
theorem cw_le (C b : Nat) : ∀ r, cw C b r ≤ r * C
  | 0 => by simp [cw]
  | r + 1 => by
    have h1 := cw_le C b r
    have h2 := ct_le (fun c => decide (dst r c ≤ b)) C
    simp only [cw, Nat.succ_mul]
    omega
theorem laR_len (C b t : Nat) (acc : List (Nat × Nat)) : ∀ r, (laR C b t acc r).length ≤ acc.length + r
  | 0 => by simp [laR]
  | r + 1 => by
    have h := laR_len C b t acc r
    simp only [laR]
    split
    · simp only [List.length_append, List.length_cons, List.length_nil]
      omega
    · omega
theorem laT_len (R C b : Nat) : ∀ t, (laT R C b t).length ≤ t * R
  | 0 => by simp [laT]
  | t + 1 => by
    have h := laT_len R C b t
    have h2 := laR_len C b t (laT R C b t) R
    simp only [laT, Nat.succ_mul]
    omega
section ST
variable {X : Cx} {d : Nat} {p : List Nat} {w : Wd}
/-- two shades change cells -/
def swP (S : Pic) (a b : Nat) : Pic := (pR S, pC S, pN S, pH S, pL S, fnU (fnU (pro S) a (pro S b)) b (pro S a), fnU (fnU (pco S) a (pco S b)) b (pco S a), pdt S)
/-- a pack is lost, or found; the shift; a dot -/
def loP (S : Pic) (k : Nat) : Pic := (pR S, pC S, pN S, pH S, pL S ^^^ 2 ^ k, pro S, pco S, pdt S)
def shP (S : Pic) (v : Nat) : Pic := (pR S, pC S, pN S, v, pL S, pro S, pco S, pdt S)
def dtP (S : Pic) (k s : Nat) : Pic := (pR S, pC S, pN S, pH S, pL S, pro S, pco S, fnU (pdt S) k s)
def puP (S : Pic) (s a b : Nat) : Pic := (pR S, pC S, pN S, pH S, pL S, fnU (pro S) s a, fnU (pco S) s b, pdt S)
theorem c_put2 {S : Pic} {s a b : Nat} (hS : StA w p S) (hN : pN S ≤ 20) (hs : s < 2 ^ 31) : Ct X 0 (d + 1) MX5_put [vR 5 0 p, vI (nI s), vI (nI a), vI (nI b)] w (qV fun w' => StA w' p (if s < pN S then puP S s a b else S) ∧ Fr [5 :: p, 6 :: p] w w') := by
  refine (c_put (x := nI s) hS.2.2.1 hN).monoV (by decide) rfl ?_
  intro w' h
  obtain ⟨hR, hC, hn, hsh, hl, hro, hco, hdt⟩ := id hS
  rcases h with ⟨h, rfl⟩ | ⟨t, ht, e, rfl⟩
  · rw [inN_nI hs (by omega)] at h
    rw [if_neg h]
    exact ⟨hS, Fr.rf⟩
  · obtain rfl : s = t := (nI_eq hs (by omega)).mp e
    rw [if_pos ht]
    refine ⟨⟨?_, ?_, ?_, ?_, ?_, ?_, ?_, ?_⟩, (Fr.i (by simp)).tr (Fr.i (by simp))⟩
    · simpa [uI, uA, cns2, puP, loP, shP, dtP, pR, pC, pN, pH, pL, pro, pco, pdt, fnU] using hR
    · simpa [uI, uA, cns2, puP, loP, shP, dtP, pR, pC, pN, pH, pL, pro, pco, pdt, fnU] using hC
    · simpa [uI, uA, cns2, puP, loP, shP, dtP, pR, pC, pN, pH, pL, pro, pco, pdt, fnU] using hn
    · simpa [uI, uA, cns2, puP, loP, shP, dtP, pR, pC, pN, pH, pL, pro, pco, pdt, fnU] using hsh
    · simpa [uI, uA, cns2, puP, loP, shP, dtP, pR, pC, pN, pH, pL, pro, pco, pdt, fnU] using hl
    · intro j hj
      by_cases h : j = s
      · subst h
        simp [uI, uA, upd, puP, loP, shP, dtP, pR, pC, pN, pH, pL, pro, pco, pdt, fnU]
      · simpa [uI, uA, upd, h, puP, loP, shP, dtP, pR, pC, pN, pH, pL, pro, pco, pdt, fnU] using hro j hj
    · intro j hj
      by_cases h : j = s
      · subst h
        simp [uI, uA, upd, puP, loP, shP, dtP, pR, pC, pN, pH, pL, pro, pco, pdt, fnU]
      · simpa [uI, uA, upd, h, puP, loP, shP, dtP, pR, pC, pN, pH, pL, pro, pco, pdt, fnU] using hco j hj
    · intro j hj
      simpa [uI, uA, puP, loP, shP, dtP, pR, pC, pN, pH, pL, pro, pco, pdt, fnU] using hdt j hj
theorem c_swap {S : Pic} {a b : Nat} (hS : StA w p S) (hN : pN S ≤ 20) (ha : a < pN S) (hb : b < pN S) : Ct X 0 (d + 2) MX5_swap [vR 5 0 p, vI (nI a), vI (nI b)] w (qV fun w' => StA w' p (swP S a b) ∧ Fr [5 :: p, 6 :: p] w w') := by
  obtain ⟨hR, hC, hn, hsh, hl, hro, hco, hdt⟩ := id hS
  refine Ct.of (by decide) rfl (Nat.le_of_ble_eq_true rfl) ?_
  show Wq _ _ _ _ 0 [(0, _), (1, _), (2, _)] [] _ _
  refine R_aload_n (i := 0) (q := 1) dX5_swap_0 rfl rfl rfl ?_
  refine R_iload_n (i := 1) (q := 2) dX5_swap_1 rfl rfl rfl ?_
  refine R_cV1i (M' := MX5_hasShade) (q := 5) dX5_swap_2 ml_X5_61 mk_X5_hasShade (Nat.le_of_ble_eq_true rfl) rfl (c_hasShade hn) ?_
  rintro _ w ⟨rfl, rfl⟩
  refine R_if_eqB (tgt := 56) (q := 8) dX5_swap_5 (by decide) rfl (fun c1 => ?_) (fun c1 => ?_)
  · exact absurd ((inN_nI (by omega) (by omega)).mpr ha) c1
  · refine R_aload_n (i := 0) (q := 9) dX5_swap_8 rfl rfl rfl ?_
    refine R_iload_n (i := 2) (q := 10) dX5_swap_9 rfl rfl rfl ?_
    refine R_cV1i (M' := MX5_hasShade) (q := 13) dX5_swap_10 ml_X5_61 mk_X5_hasShade (Nat.le_of_ble_eq_true rfl) rfl (c_hasShade hn) ?_
    rintro _ w ⟨rfl, rfl⟩
    refine R_if_eqB (tgt := 56) (q := 16) dX5_swap_13 (by decide) rfl (fun c2 => ?_) (fun c2 => ?_)
    · exact absurd ((inN_nI (by omega) (by omega)).mpr hb) c2
    · refine R_aload_n (i := 0) (q := 17) dX5_swap_16 rfl rfl rfl ?_
      refine R_getR (q := 20) dX5_swap_17 fl_X5_21 rfl (by decide) rfl ?_
      refine R_iload_n (i := 1) (q := 21) dX5_swap_20 rfl rfl rfl ?_
      refine R_iald' (q := 22) dX5_swap_21 (rfl) (by omega) (by decide) (hro a ha) rfl ?_
      refine R_istore_n (i := 3) (q := 23) (loc' := [(3, _), (0, _), (1, _), (2, _)]) dX5_swap_22 rfl (by decide) (by rfl) rfl ?_
      refine R_aload_n (i := 0) (q := 24) dX5_swap_23 rfl rfl rfl ?_
      refine R_getR (q := 27) dX5_swap_24 fl_X5_25 rfl (by decide) rfl ?_
      refine R_iload_n (i := 1) (q := 28) dX5_swap_27 rfl rfl rfl ?_
      refine R_iald' (q := 29) dX5_swap_28 (rfl) (by omega) (by decide) (hco a ha) rfl ?_
      refine R_istore (q := 31) (loc' := [(4, _), (3, _), (0, _), (1, _), (2, _)]) dX5_swap_29 (by decide) (by rfl) rfl ?_
      refine R_aload_n (i := 0) (q := 32) dX5_swap_31 rfl rfl rfl ?_
      refine R_iload_n (i := 1) (q := 33) dX5_swap_32 rfl rfl rfl ?_
      refine R_aload_n (i := 0) (q := 34) dX5_swap_33 rfl rfl rfl ?_
      refine R_getR (q := 37) dX5_swap_34 fl_X5_21 rfl (by decide) rfl ?_
      refine R_iload_n (i := 2) (q := 38) dX5_swap_37 rfl rfl rfl ?_
      refine R_iald' (q := 39) dX5_swap_38 (rfl) (by omega) (by decide) (hro b hb) rfl ?_
      refine R_aload_n (i := 0) (q := 40) dX5_swap_39 rfl rfl rfl ?_
      refine R_getR (q := 43) dX5_swap_40 fl_X5_25 rfl (by decide) rfl ?_
      refine R_iload_n (i := 2) (q := 44) dX5_swap_43 rfl rfl rfl ?_
      refine R_iald' (q := 45) dX5_swap_44 (rfl) (by omega) (by decide) (hco b hb) rfl ?_
      refine R_cV3v (M' := MX5_put) (q := 48) dX5_swap_45 ml_X5_65 mk_X5_put (Nat.le_of_ble_eq_true rfl) rfl (c_put2 hS hN (by omega)) ?_
      rintro w1 ⟨hS1, hF1⟩
      rw [if_pos ha] at hS1
      refine R_aload_n (i := 0) (q := 49) dX5_swap_48 rfl rfl rfl ?_
      refine R_iload_n (i := 2) (q := 50) dX5_swap_49 rfl rfl rfl ?_
      refine R_iload_n (i := 3) (q := 51) dX5_swap_50 rfl rfl rfl ?_
      refine R_iload (q := 53) dX5_swap_51 rfl rfl ?_
      refine R_cV3v (M' := MX5_put) (q := 56) dX5_swap_53 ml_X5_65 mk_X5_put (Nat.le_of_ble_eq_true rfl) rfl (c_put2 hS1 hN (by omega)) ?_
      rintro w2 ⟨hS2, hF2⟩
      rw [if_pos (show b < pN (puP S a (pro S b) (pco S b)) from hb)] at hS2
      refine R_rv dX5_swap_56 rfl ?_
      exact ⟨hS2, hF1.tr hF2⟩
theorem xor_fin : ∀ lo, lo < 16 → ∀ k, k < 4 → (nI lo ^^^ (nI 1 <<< (nI k &&& 31))) = nI (lo ^^^ 2 ^ k) ∧ lo ^^^ 2 ^ k < 16 := by decide
theorem c_loseOrFind {S : Pic} {k : Nat} (hS : StA w p S) (hl : pL S < 16) (hk : k < 4) : Ct X 0 d MX5_loseOrFind [vR 5 0 p, vI (nI k)] w (qV fun w' => StA w' p (loP S k) ∧ Fr [p] w w') := by
  obtain ⟨hR, hC, hn, hsh, hlo, hro, hco, hdt⟩ := id hS
  refine Ct.of (by decide) rfl (Nat.le_of_ble_eq_true rfl) ?_
  show Wq _ _ _ _ 0 [(0, _), (1, _)] [] _ _
  refine R_aload_n (i := 0) (q := 1) dX5_loseOrFind_0 rfl rfl rfl ?_
  refine R_dup (q := 2) dX5_loseOrFind_1 rfl rfl ?_
  refine R_getI' (q := 5) dX5_loseOrFind_2 fl_X5_34 rfl (hlo) rfl ?_
  refine R_iconst (v := nI 1) (q := 6) dX5_loseOrFind_5 (by decide) rfl ?_
  refine R_iload_n (i := 1) (q := 7) dX5_loseOrFind_6 rfl rfl rfl ?_
  refine R_ishl (q := 8) dX5_loseOrFind_7 rfl ?_
  refine R_ixor (q := 9) dX5_loseOrFind_8 rfl ?_
  refine R_putI (q := 12) dX5_loseOrFind_9 fl_X5_34 rfl rfl ?_
  refine R_rv dX5_loseOrFind_12 rfl ?_
  rw [(xor_fin _ hl k hk).1]
  refine ⟨⟨?_, ?_, ?_, ?_, ?_, ?_, ?_, ?_⟩, Fr.i (by simp)⟩
  · simpa [uI, uA, upd, puP, loP, shP, dtP, pR, pC, pN, pH, pL, pro, pco, pdt, fnU] using hR
  · simpa [uI, uA, upd, puP, loP, shP, dtP, pR, pC, pN, pH, pL, pro, pco, pdt, fnU] using hC
  · simpa [uI, uA, upd, puP, loP, shP, dtP, pR, pC, pN, pH, pL, pro, pco, pdt, fnU] using hn
  · simpa [uI, uA, upd, puP, loP, shP, dtP, pR, pC, pN, pH, pL, pro, pco, pdt, fnU] using hsh
  · simp [uI, uA, upd, puP, loP, shP, dtP, pR, pC, pN, pH, pL, pro, pco, pdt, fnU]
  · intro j hj
    simpa [uI, uA, cns, puP, loP, shP, dtP, pR, pC, pN, pH, pL, pro, pco, pdt, fnU] using hro j hj
  · intro j hj
    simpa [uI, uA, cns, puP, loP, shP, dtP, pR, pC, pN, pH, pL, pro, pco, pdt, fnU] using hco j hj
  · intro j hj
    simpa [uI, uA, cns, puP, loP, shP, dtP, pR, pC, pN, pH, pL, pro, pco, pdt, fnU] using hdt j hj
theorem StA_dt {S : Pic} {k s : Nat} (hS : StA w p S) : StA (uI w (7 :: p) k (nI s)) p (dtP S k s) := by
  obtain ⟨hR, hC, hn, hsh, hlo, hro, hco, hdt⟩ := id hS
  refine ⟨?_, ?_, ?_, ?_, ?_, ?_, ?_, ?_⟩
  · simpa [uI, uA, cns2, puP, loP, shP, dtP, pR, pC, pN, pH, pL, pro, pco, pdt, fnU] using hR
  · simpa [uI, uA, cns2, puP, loP, shP, dtP, pR, pC, pN, pH, pL, pro, pco, pdt, fnU] using hC
  · simpa [uI, uA, cns2, puP, loP, shP, dtP, pR, pC, pN, pH, pL, pro, pco, pdt, fnU] using hn
  · simpa [uI, uA, cns2, puP, loP, shP, dtP, pR, pC, pN, pH, pL, pro, pco, pdt, fnU] using hsh
  · simpa [uI, uA, cns2, puP, loP, shP, dtP, pR, pC, pN, pH, pL, pro, pco, pdt, fnU] using hlo
  · intro j hj
    simpa [uI, uA, puP, loP, shP, dtP, pR, pC, pN, pH, pL, pro, pco, pdt, fnU] using hro j hj
  · intro j hj
    simpa [uI, uA, puP, loP, shP, dtP, pR, pC, pN, pH, pL, pro, pco, pdt, fnU] using hco j hj
  · intro j hj
    by_cases h : j = k
    · subst h
      simp [uI, uA, upd, puP, loP, shP, dtP, pR, pC, pN, pH, pL, pro, pco, pdt, fnU]
    · simpa [uI, uA, upd, h, puP, loP, shP, dtP, pR, pC, pN, pH, pL, pro, pco, pdt, fnU] using hdt j hj
theorem StA_sh {S : Pic} {v : Nat} (hS : StA w p S) : StA (uI w p 3 (nI v)) p (shP S v) := by
  obtain ⟨hR, hC, hn, hsh, hlo, hro, hco, hdt⟩ := id hS
  refine ⟨?_, ?_, ?_, ?_, ?_, ?_, ?_, ?_⟩
  · simpa [uI, uA, upd, puP, loP, shP, dtP, pR, pC, pN, pH, pL, pro, pco, pdt, fnU] using hR
  · simpa [uI, uA, upd, puP, loP, shP, dtP, pR, pC, pN, pH, pL, pro, pco, pdt, fnU] using hC
  · simpa [uI, uA, upd, puP, loP, shP, dtP, pR, pC, pN, pH, pL, pro, pco, pdt, fnU] using hn
  · simp [uI, uA, upd, puP, loP, shP, dtP, pR, pC, pN, pH, pL, pro, pco, pdt, fnU]
  · simpa [uI, uA, upd, puP, loP, shP, dtP, pR, pC, pN, pH, pL, pro, pco, pdt, fnU] using hlo
  · intro j hj
    simpa [uI, uA, cns, puP, loP, shP, dtP, pR, pC, pN, pH, pL, pro, pco, pdt, fnU] using hro j hj
  · intro j hj
    simpa [uI, uA, cns, puP, loP, shP, dtP, pR, pC, pN, pH, pL, pro, pco, pdt, fnU] using hco j hj
  · intro j hj
    simpa [uI, uA, cns, puP, loP, shP, dtP, pR, pC, pN, pH, pL, pro, pco, pdt, fnU] using hdt j hj
theorem c_paintBy {S : Pic} {v : Nat} (hS : StA w p S) (hN : pN S ≤ 20) (hv : v < 2 ^ 31) : Ct X 0 d MX5_paintBy [vR 5 0 p, vI (nI v)] w (qV fun w' => StA w' p (if pN S = 0 then S else dtP S (v / 4 % 4 * 4 + v % 4) (v / 16 % pN S)) ∧ Fr [7 :: p] w w') := by
  obtain ⟨hR, hC, hn, hsh, hlo, hro, hco, hdt⟩ := id hS
  refine Ct.of (by decide) rfl (Nat.le_of_ble_eq_true rfl) ?_
  show Wq _ _ _ _ 0 [(0, _), (1, _)] [] _ _
  refine R_aload_n (i := 0) (q := 1) dX5_paintBy_0 rfl rfl rfl ?_
  refine R_getI' (q := 4) dX5_paintBy_1 fl_X5_31 rfl (hn) rfl ?_
  refine R_if_le (tgt := 36) (q := 7) dX5_paintBy_4 (by decide) rfl (fun c1 => ?_) (fun c1 => ?_)
  · refine R_rv dX5_paintBy_36 rfl ?_
    have h0 : pN S = 0 := by
      rcases Nat.eq_zero_or_pos (pN S) with h | h
      · exact h
      · exact absurd c1 (nI_nle h (by omega))
    rw [if_pos h0]
    exact ⟨hS, Fr.rf⟩
  · have h0 : pN S ≠ 0 := fun h => c1 (by rw [h]; decide)
    refine R_iload_n (i := 1) (q := 8) dX5_paintBy_7 rfl rfl rfl ?_
    refine R_if_lt (tgt := 36) (q := 11) dX5_paintBy_8 (by decide) rfl (fun c2 => ?_) (fun c2 => ?_)
    · exact absurd c2 (nI_pos hv)
    · have hb1 : v / 4 % 4 < 4 := Nat.mod_lt _ (by decide)
      have hb2 : v % 4 < 4 := Nat.mod_lt _ (by decide)
      refine R_aload_n (i := 0) (q := 12) dX5_paintBy_11 rfl rfl rfl ?_
      refine R_getR (q := 15) dX5_paintBy_12 fl_X5_28 rfl (by decide) rfl ?_
      refine R_iload_n (i := 1) (q := 16) dX5_paintBy_15 rfl rfl rfl ?_
      refine R_iconst (v := nI 4) (q := 17) dX5_paintBy_16 (by decide) rfl ?_
      refine R_idivN (by omega) (by omega) (by omega) (q := 18) dX5_paintBy_17 rfl ?_
      refine R_iconst (v := nI 4) (q := 19) dX5_paintBy_18 (by decide) rfl ?_
      refine R_iremN (by omega) (by omega) (by omega) (q := 20) dX5_paintBy_19 rfl ?_
      refine R_iconst (v := nI 4) (q := 21) dX5_paintBy_20 (by decide) rfl ?_
      first | refine R_imulN (q := 22) dX5_paintBy_21 rfl ?_ | refine R_imul (q := 22) dX5_paintBy_21 rfl ?_
      refine R_iload_n (i := 1) (q := 23) dX5_paintBy_22 rfl rfl rfl ?_
      refine R_iconst (v := nI 4) (q := 24) dX5_paintBy_23 (by decide) rfl ?_
      refine R_iremN (by omega) (by omega) (by omega) (q := 25) dX5_paintBy_24 rfl ?_
      first | refine R_iaddN (q := 26) dX5_paintBy_25 rfl ?_ | refine R_iadd (q := 26) dX5_paintBy_25 rfl ?_
      refine R_iload_n (i := 1) (q := 27) dX5_paintBy_26 rfl rfl rfl ?_
      refine R_bipush (v := nI 16) (q := 29) dX5_paintBy_27 (by decide) rfl ?_
      refine R_idivN (by omega) (by omega) (by omega) (q := 30) dX5_paintBy_29 rfl ?_
      refine R_aload_n (i := 0) (q := 31) dX5_paintBy_30 rfl rfl rfl ?_
      refine R_getI' (q := 34) dX5_paintBy_31 fl_X5_31 rfl (hn) rfl ?_
      refine R_iremN (by omega) (by omega) (by omega) (q := 35) dX5_paintBy_34 rfl ?_
      refine R_iast (q := 36) dX5_paintBy_35 (rfl) (by omega) (by decide) rfl ?_
      refine R_rv dX5_paintBy_36 rfl ?_
      rw [if_neg h0]
      exact ⟨StA_dt hS, Fr.i (by simp)⟩
theorem l_cw2 {S : Pic} {b r0 : Nat} (hS : StA w p S) (hR6 : pR S ≤ 6) (hC6 : pC S ≤ 6) (hb : b < 2 ^ 31) (hr : r0 < pR S) (Q : Option AV → Wd → Prop) (kk : Wq X 0 (d + 1) MX5_cellsWithin 44 [(4, vI (nI (pC S))), (2, vI (nI (cw (pC S) b r0 + ct (fun c => decide (dst r0 c ≤ b)) (pC S)))), (3, vI (nI r0)), (0, vR 5 0 p), (1, vI (nI b))] [] w Q) : ∀ (k i : Nat), pC S ≤ i + k → i ≤ pC S → Wq X 0 (d + 1) MX5_cellsWithin 15 [(4, vI (nI i)), (2, vI (nI (cw (pC S) b r0 + ct (fun c => decide (dst r0 c ≤ b)) i))), (3, vI (nI r0)), (0, vR 5 0 p), (1, vI (nI b))] [] w Q := by
  obtain ⟨hR, hC, hn, hsh, hlo, hro, hco, hdt⟩ := id hS
  intro k
  induction k with
  | zero =>
    intro i h1 h2
    refine R_iload (q := 17) dX5_cellsWithin_15 rfl rfl ?_
    refine R_aload_n (i := 0) (q := 18) dX5_cellsWithin_17 rfl rfl rfl ?_
    refine R_getI' (q := 21) dX5_cellsWithin_18 fl_X5_15 rfl (hC) rfl ?_
    refine R_icmp_geN (by omega) (by omega) (tgt := 44) (q := 24) dX5_cellsWithin_21 (by decide) rfl (fun c1 => ?_) (fun c1 => ?_)
    · obtain rfl : i = pC S := by omega
      exact kk
    · omega
  | succ k ih =>
    intro i h1 h2
    refine R_iload (q := 17) dX5_cellsWithin_15 rfl rfl ?_
    refine R_aload_n (i := 0) (q := 18) dX5_cellsWithin_17 rfl rfl rfl ?_
    refine R_getI' (q := 21) dX5_cellsWithin_18 fl_X5_15 rfl (hC) rfl ?_
    refine R_icmp_geN (by omega) (by omega) (tgt := 44) (q := 24) dX5_cellsWithin_21 (by decide) rfl (fun c1 => ?_) (fun c1 => ?_)
    · obtain rfl : i = pC S := by omega
      exact kk
    · have e := ih (i + 1) (by omega) (by omega)
      simp only [ct] at e
      refine R_iload_n (i := 3) (q := 25) dX5_cellsWithin_24 rfl rfl rfl ?_
      refine R_iload (q := 27) dX5_cellsWithin_25 rfl rfl ?_
      refine R_isub (q := 28) dX5_cellsWithin_27 rfl ?_
      refine R_mabs (q := 31) dX5_cellsWithin_28 mj_X5_69 mk_J9_abs_0f7a4 (Nat.le_of_ble_eq_true rfl) rfl ?_
      refine R_val (abs_dst (by omega) (by omega)) ?_
      have hd9 : dst r0 i < 2 ^ 31 := by unfold dst; split <;> omega
      refine R_iload_n (i := 1) (q := 32) dX5_cellsWithin_31 rfl rfl rfl ?_
      refine R_icmp_gtN (by omega) (by omega) (tgt := 38) (q := 35) dX5_cellsWithin_32 (by decide) rfl (fun c2 => ?_) (fun c2 => ?_)
      · first | refine R_iincN (q := 41) (loc' := [(4, _), (2, _), (3, _), (0, _), (1, _)]) dX5_cellsWithin_38 (by rfl) (by decide) (by rfl) rfl ?_ | refine R_iinc (q := 41) (loc' := [(4, _), (2, _), (3, _), (0, _), (1, _)]) dX5_cellsWithin_38 (by rfl) (by rfl) (by decide) (by rfl) rfl ?_
        refine R_goto (q := 15) dX5_cellsWithin_41 (by decide) ?_
        rw [if_neg (by simpa using c2)] at e
        exact e
      · rw [if_pos (by simpa using c2)] at e
        first | refine R_iincN (q := 38) (loc' := [(2, _), (4, _), (3, _), (0, _), (1, _)]) dX5_cellsWithin_35 (by rfl) (by decide) (by rfl) rfl ?_ | refine R_iinc (q := 38) (loc' := [(2, _), (4, _), (3, _), (0, _), (1, _)]) dX5_cellsWithin_35 (by rfl) (by rfl) (by decide) (by rfl) rfl ?_
        first | refine R_iincN (q := 41) (loc' := [(4, _), (2, _), (3, _), (0, _), (1, _)]) dX5_cellsWithin_38 (by rfl) (by decide) (by rfl) rfl ?_ | refine R_iinc (q := 41) (loc' := [(4, _), (2, _), (3, _), (0, _), (1, _)]) dX5_cellsWithin_38 (by rfl) (by rfl) (by decide) (by rfl) rfl ?_
        refine R_goto (q := 15) dX5_cellsWithin_41 (by decide) ?_
        exact e
theorem l_cw1 {S : Pic} {b : Nat} (hS : StA w p S) (hR6 : pR S ≤ 6) (hC6 : pC S ≤ 6) (hb : b < 2 ^ 31) : ∀ (k i : Nat), pR S ≤ i + k → i ≤ pR S → Wq X 0 (d + 1) MX5_cellsWithin 4 [(3, vI (nI i)), (2, vI (nI (cw (pC S) b i))), (0, vR 5 0 p), (1, vI (nI b))] [] w (qI fun x w' => x = nI (cw (pC S) b (pR S)) ∧ w' = w) := by
  obtain ⟨hR, hC, hn, hsh, hlo, hro, hco, hdt⟩ := id hS
  intro k
  induction k with
  | zero =>
    intro i h1 h2
    refine R_iload_n (i := 3) (q := 5) dX5_cellsWithin_4 rfl rfl rfl ?_
    refine R_aload_n (i := 0) (q := 6) dX5_cellsWithin_5 rfl rfl rfl ?_
    refine R_getI' (q := 9) dX5_cellsWithin_6 fl_X5_9 rfl (hR) rfl ?_
    refine R_icmp_geN (by omega) (by omega) (tgt := 50) (q := 12) dX5_cellsWithin_9 (by decide) rfl (fun c1 => ?_) (fun c1 => ?_)
    · refine R_iload_n (i := 2) (q := 51) dX5_cellsWithin_50 rfl rfl rfl ?_
      refine R_ri dX5_cellsWithin_51 rfl ?_
      obtain rfl : i = pR S := by omega
      exact ⟨rfl, rfl⟩
    · omega
  | succ k ih =>
    intro i h1 h2
    refine R_iload_n (i := 3) (q := 5) dX5_cellsWithin_4 rfl rfl rfl ?_
    refine R_aload_n (i := 0) (q := 6) dX5_cellsWithin_5 rfl rfl rfl ?_
    refine R_getI' (q := 9) dX5_cellsWithin_6 fl_X5_9 rfl (hR) rfl ?_
    refine R_icmp_geN (by omega) (by omega) (tgt := 50) (q := 12) dX5_cellsWithin_9 (by decide) rfl (fun c1 => ?_) (fun c1 => ?_)
    · refine R_iload_n (i := 2) (q := 51) dX5_cellsWithin_50 rfl rfl rfl ?_
      refine R_ri dX5_cellsWithin_51 rfl ?_
      obtain rfl : i = pR S := by omega
      exact ⟨rfl, rfl⟩
    · refine R_iconst (v := nI 0) (q := 13) dX5_cellsWithin_12 (by decide) rfl ?_
      refine R_istore (q := 15) (loc' := [(4, _), (3, _), (2, _), (0, _), (1, _)]) dX5_cellsWithin_13 (by decide) (by rfl) rfl ?_
      refine R_loc [0, 2, 1, 3, 4] (loc' := [(4, _), (2, _), (3, _), (0, _), (1, _)]) (by rfl) ?_
      refine l_cw2 hS hR6 hC6 hb c1 _ ?_ (pC S) 0 (by omega) (by omega)
      first | refine R_iincN (q := 47) (loc' := [(3, _), (4, _), (2, _), (0, _), (1, _)]) dX5_cellsWithin_44 (by rfl) (by decide) (by rfl) rfl ?_ | refine R_iinc (q := 47) (loc' := [(3, _), (4, _), (2, _), (0, _), (1, _)]) dX5_cellsWithin_44 (by rfl) (by rfl) (by decide) (by rfl) rfl ?_
      refine R_goto (q := 4) dX5_cellsWithin_47 (by decide) ?_
      refine R_loc [0, 2, 3, 4] (loc' := [(3, _), (2, _), (0, _), (1, _)]) (by rfl) ?_
      exact ih (i + 1) (by omega) (by omega)
theorem c_cellsWithin {S : Pic} {b : Nat} (hS : StA w p S) (hR6 : pR S ≤ 6) (hC6 : pC S ≤ 6) (hb : b < 2 ^ 31) : Ct X 0 (d + 1) MX5_cellsWithin [vR 5 0 p, vI (nI b)] w (qI fun x w' => x = nI (cw (pC S) b (pR S)) ∧ w' = w) := by
  refine Ct.of (by decide) rfl (Nat.le_of_ble_eq_true rfl) ?_
  show Wq _ _ _ _ 0 [(0, _), (1, _)] [] _ _
  refine R_iconst (v := nI 0) (q := 1) dX5_cellsWithin_0 (by decide) rfl ?_
  refine R_istore_n (i := 2) (q := 2) (loc' := [(2, _), (0, _), (1, _)]) dX5_cellsWithin_1 rfl (by decide) (by rfl) rfl ?_
  refine R_iconst (v := nI 0) (q := 3) dX5_cellsWithin_2 (by decide) rfl ?_
  refine R_istore_n (i := 3) (q := 4) (loc' := [(3, _), (2, _), (0, _), (1, _)]) dX5_cellsWithin_3 rfl (by decide) (by rfl) rfl ?_
  exact l_cw1 hS hR6 hC6 hb (pR S) 0 (by omega) (by omega)
theorem gD_l {L : List (Nat × Nat)} {x : Nat × Nat} {s : Nat} (h : s < L.length) : (L ++ [x]).getD s (0, 0) = L.getD s (0, 0) := by
  simp only [List.getD_eq_getElem?_getD, List.getElem?_append_left h]
theorem gD_r {L : List (Nat × Nat)} {x : Nat × Nat} : (L ++ [x]).getD L.length (0, 0) = x := by
  simp [List.getD_eq_getElem?_getD]
theorem layP_put {S : Pic} {L : List (Nat × Nat)} {a b : Nat} : (∀ s, pro (if L.length < pN S then puP (layP S L) L.length a b else layP S L) s = pro (layP S (L ++ [(a, b)])) s ∨ pN S ≤ s) ∧ (∀ s, pco (if L.length < pN S then puP (layP S L) L.length a b else layP S L) s = pco (layP S (L ++ [(a, b)])) s ∨ pN S ≤ s) := by
  constructor
  · intro s
    rcases Nat.lt_or_ge s (pN S) with h | h
    · left
      have hr : pro (layP S (L ++ [(a, b)])) s = (if s < (L ++ [(a, b)]).length then ((L ++ [(a, b)]).getD s (0, 0)).1 else pro S s) := rfl
      rw [hr, List.length_append, List.length_cons, List.length_nil]
      by_cases hc : L.length < pN S
      · rw [if_pos hc]
        show fnU (fun s => if s < L.length then (L.getD s (0, 0)).1 else pro S s) L.length a s = _
        simp only [fnU]
        by_cases h2 : s = L.length
        · rw [if_pos h2, h2, if_pos (by omega), gD_r]
        · rw [if_neg h2]
          rcases Nat.lt_or_ge s L.length with h3 | h3
          · rw [if_pos h3, if_pos (by omega), gD_l h3]
          · rw [if_neg (by omega), if_neg (by omega)]
      · rw [if_neg hc]
        show (if s < L.length then (L.getD s (0, 0)).1 else pro S s) = _
        rw [if_pos (by omega), if_pos (by omega), gD_l (by omega)]
    · exact Or.inr h
  · intro s
    rcases Nat.lt_or_ge s (pN S) with h | h
    · left
      have hr : pco (layP S (L ++ [(a, b)])) s = (if s < (L ++ [(a, b)]).length then ((L ++ [(a, b)]).getD s (0, 0)).2 else pco S s) := rfl
      rw [hr, List.length_append, List.length_cons, List.length_nil]
      by_cases hc : L.length < pN S
      · rw [if_pos hc]
        show fnU (fun s => if s < L.length then (L.getD s (0, 0)).2 else pco S s) L.length b s = _
        simp only [fnU]
        by_cases h2 : s = L.length
        · rw [if_pos h2, h2, if_pos (by omega), gD_r]
        · rw [if_neg h2]
          rcases Nat.lt_or_ge s L.length with h3 | h3
          · rw [if_pos h3, if_pos (by omega), gD_l h3]
          · rw [if_neg (by omega), if_neg (by omega)]
      · rw [if_neg hc]
        show (if s < L.length then (L.getD s (0, 0)).2 else pco S s) = _
        rw [if_pos (by omega), if_pos (by omega), gD_l (by omega)]
    · exact Or.inr h
theorem StA.cg {S S' : Pic} (h : StA w p S) (h1 : pR S' = pR S) (h2 : pC S' = pC S) (h3 : pN S' = pN S) (h4 : pH S' = pH S) (h5 : pL S' = pL S) (h6 : ∀ s, s < pN S → pro S' s = pro S s) (h7 : ∀ s, s < pN S → pco S' s = pco S s) (h8 : ∀ k, k < 16 → pdt S' k = pdt S k) : StA w p S' := by
  obtain ⟨hR, hC, hn, hsh, hlo, hro, hco, hdt⟩ := id h
  refine ⟨by rw [hR, h1], by rw [hC, h2], by rw [hn, h3], by rw [hsh, h4], by rw [hlo, h5], ?_, ?_, ?_⟩
  · intro s hs
    rw [h3] at hs
    rw [hro s hs, h6 s hs]
  · intro s hs
    rw [h3] at hs
    rw [hco s hs, h7 s hs]
  · intro k hk
    rw [hdt k hk, h8 k hk]
theorem StA_put {S : Pic} {L : List (Nat × Nat)} {a b : Nat} (h : StA w p (if L.length < pN (layP S L) then puP (layP S L) L.length a b else layP S L)) : StA w p (layP S (L ++ [(a, b)])) := by
  have e1 : ∀ {α : Type} (f : Pic → α), f (puP (layP S L) L.length a b) = f (layP S L) → f (if L.length < pN (layP S L) then puP (layP S L) L.length a b else layP S L) = f (layP S L) := by
    intro α f hf
    split
    · exact hf
    · rfl
  have hN : pN (if L.length < pN (layP S L) then puP (layP S L) L.length a b else layP S L) = pN S := e1 pN rfl
  refine h.cg (e1 pR rfl).symm (e1 pC rfl).symm (e1 pN rfl).symm (e1 pH rfl).symm (e1 pL rfl).symm ?_ ?_ (fun k _ => (congrFun (e1 pdt rfl) k).symm)
  · intro s hs
    rw [hN] at hs
    rcases layP_put (S := S) (L := L) (a := a) (b := b) |>.1 s with h | h
    · exact h.symm
    · omega
  · intro s hs
    rw [hN] at hs
    rcases layP_put (S := S) (L := L) (a := a) (b := b) |>.2 s with h | h
    · exact h.symm
    · omega
theorem l_la2 {S : Pic} {b t : Nat} {L : List (Nat × Nat)} (hR6 : pR S ≤ 6) (hC6 : pC S ≤ 6) (hN : pN S ≤ 20) (hb : b < 2 ^ 31) (ht : t < 12) (hL : L.length ≤ 100) (Q : Option AV → Wd → Prop) (w0 : Wd) (kk : ∀ w, StA w p (layP S (laR (pC S) b t L (pR S))) → Fr [5 :: p, 6 :: p] w0 w → Wq X 0 (d + 2) MX5_layWithin 78 [(4, vI (nI (pR S))), (2, vI (nI (laR (pC S) b t L (pR S)).length)), (3, vI (nI t)), (0, vR 5 0 p), (1, vI (nI b))] [] w Q) : ∀ (k i : Nat) (w : Wd), pR S ≤ i + k → i ≤ pR S → StA w p (layP S (laR (pC S) b t L i)) → Fr [5 :: p, 6 :: p] w0 w → Wq X 0 (d + 2) MX5_layWithin 22 [(4, vI (nI i)), (2, vI (nI (laR (pC S) b t L i).length)), (3, vI (nI t)), (0, vR 5 0 p), (1, vI (nI b))] [] w Q := by
  intro k
  induction k with
  | zero =>
    intro i w h1 h2 hS hF
    have hR9 : w.1 p 0 = nI (pR S) := hS.1
    refine R_iload (q := 24) dX5_layWithin_22 rfl rfl ?_
    refine R_aload_n (i := 0) (q := 25) dX5_layWithin_24 rfl rfl rfl ?_
    refine R_getI' (q := 28) dX5_layWithin_25 fl_X5_9 rfl (hR9) rfl ?_
    refine R_icmp_geN (by omega) (by omega) (tgt := 78) (q := 31) dX5_layWithin_28 (by decide) rfl (fun c1 => ?_) (fun c1 => ?_)
    · obtain rfl : i = pR S := by exact Nat.le_antisymm h2 c1
      exact kk w hS hF
    · exact absurd c1 (by show ¬ i < pR S; omega)
  | succ k ih =>
    intro i w h1 h2 hS hF
    have hR9 : w.1 p 0 = nI (pR S) := hS.1
    refine R_iload (q := 24) dX5_layWithin_22 rfl rfl ?_
    refine R_aload_n (i := 0) (q := 25) dX5_layWithin_24 rfl rfl rfl ?_
    refine R_getI' (q := 28) dX5_layWithin_25 fl_X5_9 rfl (hR9) rfl ?_
    refine R_icmp_geN (by omega) (by omega) (tgt := 78) (q := 31) dX5_layWithin_28 (by decide) rfl (fun c1 => ?_) (fun c1 => ?_)
    · obtain rfl : i = pR S := by exact Nat.le_antisymm h2 c1
      exact kk w hS hF
    · have c1 : i < pR S := c1
      have hlen := laR_len (pC S) b t L i
      have e := fun w => ih (i + 1) w (by omega) (by omega)
      simp only [laR] at e
      refine R_iload_n (i := 3) (q := 32) dX5_layWithin_31 rfl rfl rfl ?_
      refine R_iload (q := 34) dX5_layWithin_32 rfl rfl ?_
      refine R_isub (q := 35) dX5_layWithin_34 rfl ?_
      refine R_istore (q := 37) (loc' := [(5, _), (4, _), (2, _), (3, _), (0, _), (1, _)]) dX5_layWithin_35 (by decide) (by rfl) rfl ?_
      refine R_aload_n (i := 0) (q := 38) dX5_layWithin_37 rfl rfl rfl ?_
      refine R_iload (q := 40) dX5_layWithin_38 rfl rfl ?_
      refine R_iload (q := 42) dX5_layWithin_40 rfl rfl ?_
      refine R_cV2i (M' := MX5_hasCell) (q := 45) dX5_layWithin_42 ml_X5_74 mk_X5_hasCell (Nat.le_of_ble_eq_true rfl) rfl (c_hasCell hS.1 hS.2.1) ?_
      rintro _ w ⟨rfl, rfl⟩
      have hcell : inN (nI i) (pR (layP S (laR (pC S) b t L i))) := (inN_nI (by omega) (show pR S < 2 ^ 31 by omega)).mpr c1
      refine R_if_eqB (tgt := 72) (q := 48) dX5_layWithin_45 (by decide) rfl (fun c2 => ?_) (fun c2 => ?_)
      · have hno : ¬ (i ≤ t ∧ t - i < pC S ∧ dst i (t - i) ≤ b) := fun h => c2 ⟨hcell, (sub_in (by omega) (by omega) (show pC S < 2 ^ 30 by omega)).mpr ⟨h.1, h.2.1⟩⟩
        rw [if_neg hno] at e
        first | refine R_iincN (q := 75) (loc' := [(4, _), (5, _), (2, _), (3, _), (0, _), (1, _)]) dX5_layWithin_72 (by rfl) (by decide) (by rfl) rfl ?_ | refine R_iinc (q := 75) (loc' := [(4, _), (5, _), (2, _), (3, _), (0, _), (1, _)]) dX5_layWithin_72 (by rfl) (by rfl) (by decide) (by rfl) rfl ?_
        refine R_goto (q := 22) dX5_layWithin_75 (by decide) ?_
        refine R_loc [0, 2, 3, 4, 5] (loc' := [(4, _), (2, _), (3, _), (0, _), (1, _)]) (by rfl) ?_
        exact e w hS hF
      · have h3 := (sub_in (by omega) (by omega) (show pC S < 2 ^ 30 by omega)).mp c2.2
        have h3 : i ≤ t ∧ t - i < pC S := h3
        refine R_iload (q := 50) dX5_layWithin_48 rfl rfl ?_
        refine R_iload (q := 52) (x := nI (t - i)) dX5_layWithin_50 ?_ rfl ?_
        · rw [← pk_sub h3.1]
          rfl
        refine R_isub (q := 53) dX5_layWithin_52 rfl ?_
        refine R_mabs (q := 56) dX5_layWithin_53 mj_X5_69 mk_J9_abs_0f7a4 (Nat.le_of_ble_eq_true rfl) rfl ?_
        refine R_val (abs_dst (by omega) (by omega)) ?_
        have hd9 : dst i (t - i) < 2 ^ 31 := by unfold dst; split <;> omega
        refine R_iload_n (i := 1) (q := 57) dX5_layWithin_56 rfl rfl rfl ?_
        refine R_icmp_gtN (by omega) (by omega) (tgt := 72) (q := 60) dX5_layWithin_57 (by decide) rfl (fun c4 => ?_) (fun c4 => ?_)
        · have hno : ¬ (i ≤ t ∧ t - i < pC S ∧ dst i (t - i) ≤ b) := fun h => by omega
          rw [if_neg hno] at e
          first | refine R_iincN (q := 75) (loc' := [(4, _), (5, _), (2, _), (3, _), (0, _), (1, _)]) dX5_layWithin_72 (by rfl) (by decide) (by rfl) rfl ?_ | refine R_iinc (q := 75) (loc' := [(4, _), (5, _), (2, _), (3, _), (0, _), (1, _)]) dX5_layWithin_72 (by rfl) (by rfl) (by decide) (by rfl) rfl ?_
          refine R_goto (q := 22) dX5_layWithin_75 (by decide) ?_
          refine R_loc [0, 2, 3, 4, 5] (loc' := [(4, _), (2, _), (3, _), (0, _), (1, _)]) (by rfl) ?_
          exact e w hS hF
        · rw [if_pos ⟨h3.1, h3.2, c4⟩] at e
          refine R_aload_n (i := 0) (q := 61) dX5_layWithin_60 rfl rfl rfl ?_
          refine R_iload_n (i := 2) (q := 62) dX5_layWithin_61 rfl rfl rfl ?_
          refine R_iload (q := 64) dX5_layWithin_62 rfl rfl ?_
          refine R_iload (q := 66) (x := nI (t - i)) dX5_layWithin_64 ?_ rfl ?_
          · rw [← pk_sub h3.1]
            rfl
          refine R_cV3v (M' := MX5_put) (q := 69) dX5_layWithin_66 ml_X5_65 mk_X5_put (Nat.le_of_ble_eq_true rfl) rfl (c_put2 hS hN (by omega)) ?_
          rintro w1 ⟨hS1, hF1⟩
          first | refine R_iincN (q := 72) (loc' := [(2, _), (5, _), (4, _), (3, _), (0, _), (1, _)]) dX5_layWithin_69 (by rfl) (by decide) (by rfl) rfl ?_ | refine R_iinc (q := 72) (loc' := [(2, _), (5, _), (4, _), (3, _), (0, _), (1, _)]) dX5_layWithin_69 (by rfl) (by rfl) (by decide) (by rfl) rfl ?_
          first | refine R_iincN (q := 75) (loc' := [(4, _), (2, _), (5, _), (3, _), (0, _), (1, _)]) dX5_layWithin_72 (by rfl) (by decide) (by rfl) rfl ?_ | refine R_iinc (q := 75) (loc' := [(4, _), (2, _), (5, _), (3, _), (0, _), (1, _)]) dX5_layWithin_72 (by rfl) (by rfl) (by decide) (by rfl) rfl ?_
          refine R_goto (q := 22) dX5_layWithin_75 (by decide) ?_
          refine R_loc [0, 1, 3, 4, 5] (loc' := [(4, _), (2, _), (3, _), (0, _), (1, _)]) (by rfl) ?_
          have e2 := e w1 (StA_put hS1) (hF.tr hF1)
          rw [List.length_append] at e2
          exact e2
theorem l_la1 {S : Pic} {b : Nat} (hR6 : 1 ≤ pR S ∧ pR S ≤ 6) (hC6 : 1 ≤ pC S ∧ pC S ≤ 6) (hN : pN S ≤ 20) (hb : b < 2 ^ 31) (w0 : Wd) : ∀ (k i : Nat) (w : Wd), pR S + pC S - 1 ≤ i + k → i ≤ pR S + pC S - 1 → StA w p (layP S (laT (pR S) (pC S) b i)) → Fr [5 :: p, 6 :: p] w0 w → Wq X 0 (d + 2) MX5_layWithin 4 [(3, vI (nI i)), (2, vI (nI (laT (pR S) (pC S) b i).length)), (0, vR 5 0 p), (1, vI (nI b))] [] w (qV fun w' => StA w' p (layP S (laT (pR S) (pC S) b (pR S + pC S - 1))) ∧ Fr [5 :: p, 6 :: p] w0 w') := by
  intro k
  induction k with
  | zero =>
    intro i w h1 h2 hS hF
    refine R_iload_n (i := 3) (q := 5) dX5_layWithin_4 rfl rfl rfl ?_
    refine R_aload_n (i := 0) (q := 6) dX5_layWithin_5 rfl rfl rfl ?_
    refine R_getI' (q := 9) dX5_layWithin_6 fl_X5_9 rfl (hS.1) rfl ?_
    refine R_aload_n (i := 0) (q := 10) dX5_layWithin_9 rfl rfl rfl ?_
    refine R_getI' (q := 13) dX5_layWithin_10 fl_X5_15 rfl (hS.2.1) rfl ?_
    first | refine R_iaddN (q := 14) dX5_layWithin_13 rfl ?_ | refine R_iadd (q := 14) dX5_layWithin_13 rfl ?_
    refine R_iconst (v := nI 2) (q := 15) dX5_layWithin_14 (by decide) rfl ?_
    refine R_isubN (show 2 ≤ pR S + pC S by omega) (q := 16) dX5_layWithin_15 rfl ?_
    refine R_icmp_gt (tgt := 84) (q := 19) dX5_layWithin_16 (by decide) rfl (fun c1 => ?_) (fun c1 => ?_)
    · obtain rfl : i = pR S + pC S - 1 := by omega
      refine R_rv dX5_layWithin_84 rfl ?_
      exact ⟨hS, hF⟩
    · exact absurd ((nI_ltI (show pR S + pC S - 2 < 2 ^ 31 by omega) (by omega)).mpr (by omega)) c1
  | succ k ih =>
    intro i w h1 h2 hS hF
    refine R_iload_n (i := 3) (q := 5) dX5_layWithin_4 rfl rfl rfl ?_
    refine R_aload_n (i := 0) (q := 6) dX5_layWithin_5 rfl rfl rfl ?_
    refine R_getI' (q := 9) dX5_layWithin_6 fl_X5_9 rfl (hS.1) rfl ?_
    refine R_aload_n (i := 0) (q := 10) dX5_layWithin_9 rfl rfl rfl ?_
    refine R_getI' (q := 13) dX5_layWithin_10 fl_X5_15 rfl (hS.2.1) rfl ?_
    first | refine R_iaddN (q := 14) dX5_layWithin_13 rfl ?_ | refine R_iadd (q := 14) dX5_layWithin_13 rfl ?_
    refine R_iconst (v := nI 2) (q := 15) dX5_layWithin_14 (by decide) rfl ?_
    refine R_isubN (show 2 ≤ pR S + pC S by omega) (q := 16) dX5_layWithin_15 rfl ?_
    refine R_icmp_gt (tgt := 84) (q := 19) dX5_layWithin_16 (by decide) rfl (fun c1 => ?_) (fun c1 => ?_)
    · have c1 := (nI_ltI (show pR S + pC S - 2 < 2 ^ 31 by omega) (by omega)).mp c1
      obtain rfl : i = pR S + pC S - 1 := by omega
      refine R_rv dX5_layWithin_84 rfl ?_
      exact ⟨hS, hF⟩
    · have c1 : i < pR S + pC S - 1 := by
        have := fun h => c1 ((nI_ltI (show pR S + pC S - 2 < 2 ^ 31 by omega) (by omega)).mpr h)
        have := Nat.not_lt.mp this
        omega
      have hlen := laT_len (pR S) (pC S) b i
      have hlen2 : i * pR S ≤ 11 * 6 := Nat.mul_le_mul (by omega) hR6.2
      refine R_iconst (v := nI 0) (q := 20) dX5_layWithin_19 (by decide) rfl ?_
      refine R_istore (q := 22) (loc' := [(4, _), (3, _), (2, _), (0, _), (1, _)]) dX5_layWithin_20 (by decide) (by rfl) rfl ?_
      refine R_loc [0, 2, 1, 3, 4] (loc' := [(4, _), (2, _), (3, _), (0, _), (1, _)]) (by rfl) ?_
      refine l_la2 (L := laT (pR S) (pC S) b i) hR6.2 hC6.2 hN hb (by omega) (by omega) _ w0 ?_ (pR S) 0 w (by omega) (by omega) hS hF
      intro w1 hS1 hF1
      first | refine R_iincN (q := 81) (loc' := [(3, _), (4, _), (2, _), (0, _), (1, _)]) dX5_layWithin_78 (by rfl) (by decide) (by rfl) rfl ?_ | refine R_iinc (q := 81) (loc' := [(3, _), (4, _), (2, _), (0, _), (1, _)]) dX5_layWithin_78 (by rfl) (by rfl) (by decide) (by rfl) rfl ?_
      refine R_goto (q := 4) dX5_layWithin_81 (by decide) ?_
      refine R_loc [0, 2, 3, 4] (loc' := [(3, _), (2, _), (0, _), (1, _)]) (by rfl) ?_
      exact ih (i + 1) w1 (by omega) (by omega) hS1 hF1
theorem c_layWithin {S : Pic} {b : Nat} (hS : StA w p S) (hR6 : 1 ≤ pR S ∧ pR S ≤ 6) (hC6 : 1 ≤ pC S ∧ pC S ≤ 6) (hN : pN S ≤ 20) (hb : b < 2 ^ 31) : Ct X 0 (d + 2) MX5_layWithin [vR 5 0 p, vI (nI b)] w (qV fun w' => StA w' p (layP S (laT (pR S) (pC S) b (pR S + pC S - 1))) ∧ Fr [5 :: p, 6 :: p] w w') := by
  refine Ct.of (by decide) rfl (Nat.le_of_ble_eq_true rfl) ?_
  show Wq _ _ _ _ 0 [(0, _), (1, _)] [] _ _
  refine R_iconst (v := nI 0) (q := 1) dX5_layWithin_0 (by decide) rfl ?_
  refine R_istore_n (i := 2) (q := 2) (loc' := [(2, _), (0, _), (1, _)]) dX5_layWithin_1 rfl (by decide) (by rfl) rfl ?_
  refine R_iconst (v := nI 0) (q := 3) dX5_layWithin_2 (by decide) rfl ?_
  refine R_istore_n (i := 3) (q := 4) (loc' := [(3, _), (2, _), (0, _), (1, _)]) dX5_layWithin_3 rfl (by decide) (by rfl) rfl ?_
  exact l_la1 hR6 hC6 hN hb w (pR S + pC S - 1) 0 w (by omega) (by omega) hS Fr.rf
end ST
end
section
/-! reading a text: what is read (rows, columns, shades, their rows, their columns, the row that is being told) -/
abbrev RS : Type := Nat × Nat × Nat × (Nat → Nat) × (Nat → Nat) × Nat
def rs0 : RS := (1, 1, 0, (fun _ => 0), (fun _ => 0), 0)
/-- the picture of what is read -/
def rsP (st : RS) : Pic := (st.1, st.2.1, st.2.2.1, 1, 0, st.2.2.2.1, st.2.2.2.2.1, fun _ => 0)
abbrev fgI (x : Int32) : Int32 := x - nI 48
def fgN (x : Int32) : Nat := (x - nI 48).toNatClampNeg
abbrev rsRoom (st : RS) : Prop := st.2.2.1 < 20 ∧ st.2.2.1 < st.1 * st.2.1
/-- one letter at a place: none, if it is a fault -/
def rst (st : RS) (k : Nat) (x : Int32) : Option RS :=
  if k = 0 then (if x = nI 77 then some st else none)
  else if k = 1 then (if inN (fgI x) 7 ∧ 1 ≤ fgN x then some (fgN x, st.2.1, st.2.2.1, st.2.2.2.1, st.2.2.2.2.1, st.2.2.2.2.2) else none)
  else if k = 2 then (if inN (fgI x) 7 ∧ 1 ≤ fgN x then some (st.1, fgN x, st.2.2.1, st.2.2.2.1, st.2.2.2.2.1, st.2.2.2.2.2) else none)
  else if k % 3 = 0 then (if x = nI 105 ∧ rsRoom st then some st else none)
  else if k % 3 = 1 then (if inN (fgI x) st.1 ∧ ct (fun s => st.2.2.2.1 s == fgN x) st.2.2.1 < st.2.1 then some (st.1, st.2.1, st.2.2.1, st.2.2.2.1, st.2.2.2.2.1, fgN x) else none)
  else (if inN (fgI x) st.2.1 ∧ ∀ s, s < st.2.2.1 → ¬ (st.2.2.2.1 s = st.2.2.2.2.2 ∧ st.2.2.2.2.1 s = fgN x) then some (st.1, st.2.1, st.2.2.1 + 1, fnU st.2.2.2.1 st.2.2.1 st.2.2.2.2.2, fnU st.2.2.2.2.1 st.2.2.1 (fgN x), st.2.2.2.2.2) else none)
/-- the first k letters read -/
def rdL (tx : Nat → Int32) : Nat → Option RS
  | 0 => some rs0
  | k + 1 => match rdL tx k with
    | none => none
    | some st => rst st k (tx k)
/-- what holds after k letters -/
def RI (st : RS) (k : Nat) : Prop := (1 ≤ st.1 ∧ st.1 ≤ 6) ∧ (1 ≤ st.2.1 ∧ st.2.1 ≤ 6) ∧ st.2.2.1 ≤ 20 ∧ (∀ s, s < st.2.2.1 → st.2.2.2.1 s < st.1 ∧ st.2.2.2.2.1 s < st.2.1) ∧ (∀ s t, s < t → t < st.2.2.1 → ¬ (st.2.2.2.1 s = st.2.2.2.1 t ∧ st.2.2.2.2.1 s = st.2.2.2.2.1 t)) ∧ (k ≤ 3 → st.2.2.1 = 0) ∧ (3 ≤ k → k % 3 ≠ 0 → rsRoom st) ∧ (3 ≤ k → k % 3 = 2 → st.2.2.2.2.2 < st.1)
theorem fgN_eq {x : Int32} {n : Nat} (hn : n < 2 ^ 31) (h : inN (fgI x) n) : fgN x < n ∧ fgI x = nI (fgN x) := by
  obtain ⟨j, hj, e⟩ := inN_ex hn h
  have : fgN x = j := by
    unfold fgN
    rw [show x - nI 48 = nI j from e, nI_clamp (by omega)]
  rw [this]
  exact ⟨hj, e⟩
theorem RI_0 : RI rs0 0 := by
  refine ⟨⟨by decide, by decide⟩, ⟨by decide, by decide⟩, by decide, ?_, ?_, fun _ => rfl, fun h => absurd h (by decide), fun h => absurd h (by decide)⟩
  · intro s hs
    exact absurd hs (Nat.not_lt_zero s)
  · intro s t _ ht
    exact absurd ht (Nat.not_lt_zero t)
theorem RI_step {st st' : RS} {k : Nat} {x : Int32} (h : RI st k) (e : rst st k x = some st') : RI st' (k + 1) := by
  obtain ⟨h1, h2, h3, h4, h5, h6, h7, h8⟩ := h
  unfold rst at e
  by_cases k0 : k = 0
  · rw [if_pos k0] at e
    split at e
    · cases e
      exact ⟨h1, h2, h3, h4, h5, fun _ => h6 (by omega), fun h => absurd h (by omega), fun h => absurd h (by omega)⟩
    · cases e
  rw [if_neg k0] at e
  by_cases k1 : k = 1
  · rw [if_pos k1] at e
    split at e
    · rename_i g
      cases e
      have g2 := fgN_eq (by decide) g.1
      have n0 := h6 (by omega)
      refine ⟨⟨g.2, by show fgN x ≤ 6; omega⟩, h2, h3, ?_, h5, fun _ => n0, fun h => absurd h (by omega), fun h => absurd h (by omega)⟩
      intro s hs
      exact absurd (show s < st.2.2.1 from hs) (by omega)
    · cases e
  rw [if_neg k1] at e
  by_cases k2 : k = 2
  · rw [if_pos k2] at e
    split at e
    · rename_i g
      cases e
      have g2 := fgN_eq (by decide) g.1
      have n0 := h6 (by omega)
      refine ⟨h1, ⟨g.2, by show fgN x ≤ 6; omega⟩, h3, ?_, h5, fun _ => n0, fun _ h => absurd (show (k + 1) % 3 = 0 by omega) h, fun _ h => absurd h (by omega)⟩
      intro s hs
      exact absurd (show s < st.2.2.1 from hs) (by omega)
    · cases e
  rw [if_neg k2] at e
  by_cases m0 : k % 3 = 0
  · rw [if_pos m0] at e
    split at e
    · rename_i g
      cases e
      exact ⟨h1, h2, h3, h4, h5, fun h => absurd h (by omega), fun _ _ => g.2, fun _ h => absurd h (by omega)⟩
    · cases e
  rw [if_neg m0] at e
  by_cases m1 : k % 3 = 1
  · rw [if_pos m1] at e
    split at e
    · rename_i g
      cases e
      have g2 := fgN_eq (by omega) g.1
      exact ⟨h1, h2, h3, h4, h5, fun h => absurd h (by omega), fun _ _ => h7 (by omega) m0, fun _ _ => g2.1⟩
    · cases e
  rw [if_neg m1] at e
  split at e
  · rename_i g
    cases e
    have g2 := fgN_eq (by omega) g.1
    have hr := h7 (by omega) m0
    have hc := h8 (by omega) (by omega)
    refine ⟨h1, h2, ?_, ?_, ?_, fun h => absurd h (by omega), fun _ h => absurd (show (k + 1) % 3 = 0 by omega) h, fun _ h => absurd h (by omega)⟩
    · show st.2.2.1 + 1 ≤ 20
      omega
    · intro s hs
      have hs : s < st.2.2.1 + 1 := hs
      show fnU st.2.2.2.1 st.2.2.1 st.2.2.2.2.2 s < st.1 ∧ fnU st.2.2.2.2.1 st.2.2.1 (fgN x) s < st.2.1
      unfold fnU
      by_cases hh : s = st.2.2.1
      · rw [if_pos hh, if_pos hh]
        exact ⟨hc, g2.1⟩
      · rw [if_neg hh, if_neg hh]
        exact h4 s (by omega)
    · intro s t hst ht
      have ht : t < st.2.2.1 + 1 := ht
      show ¬ (fnU st.2.2.2.1 st.2.2.1 st.2.2.2.2.2 s = fnU st.2.2.2.1 st.2.2.1 st.2.2.2.2.2 t ∧ fnU st.2.2.2.2.1 st.2.2.1 (fgN x) s = fnU st.2.2.2.2.1 st.2.2.1 (fgN x) t)
      unfold fnU
      rw [if_neg (show ¬ s = st.2.2.1 by omega), if_neg (show ¬ s = st.2.2.1 by omega)]
      by_cases hh : t = st.2.2.1
      · rw [if_pos hh, if_pos hh]
        exact g.2 s (by omega)
      · rw [if_neg hh, if_neg hh]
        exact h5 s t hst (by omega)
  · cases e
theorem RI_rd {tx : Nat → Int32} : ∀ {k : Nat} {st : RS}, rdL tx k = some st → RI st k
  | 0, st, h => by cases h; exact RI_0
  | k + 1, st, h => by
    simp only [rdL] at h
    cases hq : rdL tx k with
    | none => rw [hq] at h; cases h
    | some s0 =>
      rw [hq] at h
      exact RI_step (RI_rd hq) h
/-- FAULT: what a reading answers; at its end the picture -/
def RdQ (tx : Nat → Int32) (len : Nat) (x : Int32) (P : Pic → Prop) : Prop := (∃ k, k < len ∧ (∃ st, rdL tx k = some st) ∧ rdL tx (k + 1) = none ∧ x = nI k) ∨ ∃ st, rdL tx len = some st ∧ ((0 < len ∧ len % 3 = 0 ∧ x = -9 ∧ P (rsP st)) ∨ (¬ (0 < len ∧ len % 3 = 0) ∧ x = nI len))
section ST
variable {X : Cx} {d : Nat} {p : List Nat} {w : Wd}
theorem fig_1 {y : Int32} : (¬ y < nI 1 ∧ y ≤ nI 6) ↔ ∃ j, 1 ≤ j ∧ j ≤ 6 ∧ y = nI j := by
  constructor
  · rintro ⟨h1, h2⟩
    have h0 : ¬ y < 0 := fun h => h1 (by rw [Int32.lt_iff_toInt_lt] at h ⊢; rw [show (nI 1).toInt = 1 from rfl]; rw [show (0 : Int32).toInt = 0 from rfl] at h; omega)
    obtain ⟨j, hj, rfl⟩ := nI_of h0
    refine ⟨j, ?_, (nI_leI hj (by decide)).mp h2, rfl⟩
    have := fun h => h1 ((nI_ltI hj (by decide)).mpr h)
    exact Nat.not_lt.mp this
  · rintro ⟨j, h1, h2, rfl⟩
    exact ⟨nI_nlt h1 (by omega), nI_le h2 (by decide)⟩
theorem c_tellRows {y : Int32} : Ct X 0 d MX5_tellRows [vR 5 0 p, vI y] w (qI fun z w' => (z = 1 ∧ ∃ j, 1 ≤ j ∧ j ≤ 6 ∧ y = nI j ∧ w' = uI w p 0 (nI j)) ∨ (z = 0 ∧ w' = w ∧ ¬ ∃ j, 1 ≤ j ∧ j ≤ 6 ∧ y = nI j)) := by
  refine Ct.of (by decide) rfl (Nat.le_of_ble_eq_true rfl) ?_
  show Wq _ _ _ _ 0 [(0, _), (1, _)] [] _ _
  refine R_iload_n (i := 1) (q := 1) dX5_tellRows_0 rfl rfl rfl ?_
  refine R_iconst (v := nI 1) (q := 2) dX5_tellRows_1 (by decide) rfl ?_
  refine R_icmp_lt (tgt := 11) (q := 5) dX5_tellRows_2 (by decide) rfl (fun c1 => ?_) (fun c1 => ?_)
  · refine R_iconst (v := nI 0) (q := 12) dX5_tellRows_11 (by decide) rfl ?_
    refine R_rz dX5_tellRows_12 rfl (by decide) ?_
    exact Or.inr ⟨rfl, rfl, fun h => (fig_1.mpr h).1 c1⟩
  · refine R_iload_n (i := 1) (q := 6) dX5_tellRows_5 rfl rfl rfl ?_
    refine R_bipush (v := nI 6) (q := 8) dX5_tellRows_6 (by decide) rfl ?_
    refine R_icmp_le (tgt := 13) (q := 11) dX5_tellRows_8 (by decide) rfl (fun c2 => ?_) (fun c2 => ?_)
    · obtain ⟨j, h1, h2, rfl⟩ := fig_1.mp ⟨c1, c2⟩
      refine R_aload_n (i := 0) (q := 14) dX5_tellRows_13 rfl rfl rfl ?_
      refine R_iload_n (i := 1) (q := 15) dX5_tellRows_14 rfl rfl rfl ?_
      refine R_putI (q := 18) dX5_tellRows_15 fl_X5_9 rfl rfl ?_
      refine R_iconst (v := nI 1) (q := 19) dX5_tellRows_18 (by decide) rfl ?_
      refine R_rz dX5_tellRows_19 rfl (by decide) ?_
      exact Or.inl ⟨rfl, j, h1, h2, rfl, rfl⟩
    · refine R_iconst (v := nI 0) (q := 12) dX5_tellRows_11 (by decide) rfl ?_
      refine R_rz dX5_tellRows_12 rfl (by decide) ?_
      exact Or.inr ⟨rfl, rfl, fun h => c2 (fig_1.mpr h).2⟩
theorem c_tellColumns {y : Int32} : Ct X 0 d MX5_tellColumns [vR 5 0 p, vI y] w (qI fun z w' => (z = 1 ∧ ∃ j, 1 ≤ j ∧ j ≤ 6 ∧ y = nI j ∧ w' = uI w p 1 (nI j)) ∨ (z = 0 ∧ w' = w ∧ ¬ ∃ j, 1 ≤ j ∧ j ≤ 6 ∧ y = nI j)) := by
  refine Ct.of (by decide) rfl (Nat.le_of_ble_eq_true rfl) ?_
  show Wq _ _ _ _ 0 [(0, _), (1, _)] [] _ _
  refine R_iload_n (i := 1) (q := 1) dX5_tellColumns_0 rfl rfl rfl ?_
  refine R_iconst (v := nI 1) (q := 2) dX5_tellColumns_1 (by decide) rfl ?_
  refine R_icmp_lt (tgt := 11) (q := 5) dX5_tellColumns_2 (by decide) rfl (fun c1 => ?_) (fun c1 => ?_)
  · refine R_iconst (v := nI 0) (q := 12) dX5_tellColumns_11 (by decide) rfl ?_
    refine R_rz dX5_tellColumns_12 rfl (by decide) ?_
    exact Or.inr ⟨rfl, rfl, fun h => (fig_1.mpr h).1 c1⟩
  · refine R_iload_n (i := 1) (q := 6) dX5_tellColumns_5 rfl rfl rfl ?_
    refine R_bipush (v := nI 6) (q := 8) dX5_tellColumns_6 (by decide) rfl ?_
    refine R_icmp_le (tgt := 13) (q := 11) dX5_tellColumns_8 (by decide) rfl (fun c2 => ?_) (fun c2 => ?_)
    · obtain ⟨j, h1, h2, rfl⟩ := fig_1.mp ⟨c1, c2⟩
      refine R_aload_n (i := 0) (q := 14) dX5_tellColumns_13 rfl rfl rfl ?_
      refine R_iload_n (i := 1) (q := 15) dX5_tellColumns_14 rfl rfl rfl ?_
      refine R_putI (q := 18) dX5_tellColumns_15 fl_X5_15 rfl rfl ?_
      refine R_iconst (v := nI 1) (q := 19) dX5_tellColumns_18 (by decide) rfl ?_
      refine R_rz dX5_tellColumns_19 rfl (by decide) ?_
      exact Or.inl ⟨rfl, j, h1, h2, rfl, rfl⟩
    · refine R_iconst (v := nI 0) (q := 12) dX5_tellColumns_11 (by decide) rfl ?_
      refine R_rz dX5_tellColumns_12 rfl (by decide) ?_
      exact Or.inr ⟨rfl, rfl, fun h => c2 (fig_1.mpr h).2⟩
theorem c_hasRoom {a b n : Nat} (ha : w.1 p 0 = nI a) (hb : w.1 p 1 = nI b) (hn : w.1 p 2 = nI n) (ha6 : a ≤ 6) (hb6 : b ≤ 6) (hn20 : n ≤ 20) : Ct X 0 d MX5_hasRoom [vR 5 0 p] w (qI fun z w' => z = bI (n < 20 ∧ n < a * b) ∧ w' = w) := by
  have hab : a * b ≤ 6 * 6 := Nat.mul_le_mul ha6 hb6
  refine Ct.of (by decide) rfl (Nat.le_of_ble_eq_true rfl) ?_
  show Wq _ _ _ _ 0 [(0, _)] [] _ _
  refine R_aload_n (i := 0) (q := 1) dX5_hasRoom_0 rfl rfl rfl ?_
  refine R_getI' (q := 4) dX5_hasRoom_1 fl_X5_31 rfl (hn) rfl ?_
  refine R_bipush (v := nI 20) (q := 6) dX5_hasRoom_4 (by decide) rfl ?_
  refine R_icmp_geN (by omega) (by omega) (tgt := 29) (q := 9) dX5_hasRoom_6 (by decide) rfl (fun c1 => ?_) (fun c1 => ?_)
  · refine R_iconst (v := nI 0) (q := 30) dX5_hasRoom_29 (by decide) rfl ?_
    refine R_rz dX5_hasRoom_30 rfl (by decide) ?_
    exact ⟨(bI_f (fun h => by omega)).symm, rfl⟩
  · refine R_aload_n (i := 0) (q := 10) dX5_hasRoom_9 rfl rfl rfl ?_
    refine R_getI' (q := 13) dX5_hasRoom_10 fl_X5_31 rfl (hn) rfl ?_
    refine R_aload_n (i := 0) (q := 14) dX5_hasRoom_13 rfl rfl rfl ?_
    refine R_getI' (q := 17) dX5_hasRoom_14 fl_X5_9 rfl (ha) rfl ?_
    refine R_aload_n (i := 0) (q := 18) dX5_hasRoom_17 rfl rfl rfl ?_
    refine R_getI' (q := 21) dX5_hasRoom_18 fl_X5_15 rfl (hb) rfl ?_
    first | refine R_imulN (q := 22) dX5_hasRoom_21 rfl ?_ | refine R_imul (q := 22) dX5_hasRoom_21 rfl ?_
    refine R_icmp_geN (by omega) (by omega) (tgt := 29) (q := 25) dX5_hasRoom_22 (by decide) rfl (fun c2 => ?_) (fun c2 => ?_)
    · refine R_iconst (v := nI 0) (q := 30) dX5_hasRoom_29 (by decide) rfl ?_
      refine R_rz dX5_hasRoom_30 rfl (by decide) ?_
      exact ⟨(bI_f (fun h => by omega)).symm, rfl⟩
    · refine R_iconst (v := nI 1) (q := 26) dX5_hasRoom_25 (by decide) rfl ?_
      refine R_goto (q := 30) dX5_hasRoom_26 (by decide) ?_
      refine R_rz dX5_hasRoom_30 rfl (by decide) ?_
      exact ⟨(bI_t ⟨c1, c2⟩).symm, rfl⟩
theorem c_tellRow {S : Pic} {y : Int32} (hS : StA w p S) (hR6 : pR S ≤ 6) (hC6 : pC S ≤ 6) (hN : pN S ≤ 20) (hro : ∀ s, s < pN S → pro S s < pR S) : Ct X 0 (d + 1) MX5_tellRow [vR 5 0 p, vI y] w (qI fun z w' => (z = 1 ∧ ∃ j, j < pR S ∧ y = nI j ∧ (pN S < 20 ∧ pN S < pR S * pC S) ∧ ct (fun s => pro S s == j) (pN S) < pC S ∧ w' = uI w (5 :: p) (pN S) (nI j)) ∨ (z = 0 ∧ w' = w ∧ ¬ ∃ j, j < pR S ∧ y = nI j ∧ (pN S < 20 ∧ pN S < pR S * pC S) ∧ ct (fun s => pro S s == j) (pN S) < pC S)) := by
  obtain ⟨hR, hC, hn, hsh, hlo, hr5, hco, hdt⟩ := id hS
  refine Ct.of (by decide) rfl (Nat.le_of_ble_eq_true rfl) ?_
  show Wq _ _ _ _ 0 [(0, _), (1, _)] [] _ _
  refine R_iload_n (i := 1) (q := 1) dX5_tellRow_0 rfl rfl rfl ?_
  refine R_if_lt (tgt := 31) (q := 4) dX5_tellRow_1 (by decide) rfl (fun c1 => ?_) (fun c1 => ?_)
  · refine R_iconst (v := nI 0) (q := 32) dX5_tellRow_31 (by decide) rfl ?_
    refine R_rz dX5_tellRow_32 rfl (by decide) ?_
    exact Or.inr ⟨rfl, rfl, fun ⟨j, h1, h2, h3⟩ => nI_pos (by omega) (h2 ▸ c1)⟩
  · refine R_iload_n (i := 1) (q := 5) dX5_tellRow_4 rfl rfl rfl ?_
    refine R_aload_n (i := 0) (q := 6) dX5_tellRow_5 rfl rfl rfl ?_
    refine R_getI' (q := 9) dX5_tellRow_6 fl_X5_9 rfl (hR) rfl ?_
    refine R_icmp_ge (tgt := 31) (q := 12) dX5_tellRow_9 (by decide) rfl (fun c2 => ?_) (fun c2 => ?_)
    · refine R_iconst (v := nI 0) (q := 32) dX5_tellRow_31 (by decide) rfl ?_
      refine R_rz dX5_tellRow_32 rfl (by decide) ?_
      exact Or.inr ⟨rfl, rfl, fun ⟨j, h1, h2, h3⟩ => nI_ge h1 (by omega) (h2 ▸ c2)⟩
    · obtain ⟨j, hj, rfl⟩ := inN_ex (n := pR S) (by omega) ⟨c1, c2⟩
      refine R_aload_n (i := 0) (q := 13) dX5_tellRow_12 rfl rfl rfl ?_
      refine R_cV0i (M' := MX5_hasRoom) (q := 16) dX5_tellRow_13 ml_X5_49 mk_X5_hasRoom (Nat.le_of_ble_eq_true rfl) rfl (c_hasRoom hR hC hn hR6 hC6 hN) ?_
      rintro _ w ⟨rfl, rfl⟩
      refine R_if_eqB (tgt := 31) (q := 19) dX5_tellRow_16 (by decide) rfl (fun c3 => ?_) (fun c3 => ?_)
      · refine R_iconst (v := nI 0) (q := 32) dX5_tellRow_31 (by decide) rfl ?_
        refine R_rz dX5_tellRow_32 rfl (by decide) ?_
        exact Or.inr ⟨rfl, rfl, fun ⟨j, h1, h2, h3, h4⟩ => c3 h3⟩
      · refine R_aload_n (i := 0) (q := 20) dX5_tellRow_19 rfl rfl rfl ?_
        refine R_iload_n (i := 1) (q := 21) dX5_tellRow_20 rfl rfl rfl ?_
        refine R_cV1i (M' := MX5_shadesInRow) (q := 24) dX5_tellRow_21 ml_X5_53 mk_X5_shadesInRow (Nat.le_of_ble_eq_true rfl) rfl (c_shadesInRow hS hN (by omega) (fun s hs => by have := hro s hs; omega)) ?_
        rintro _ w ⟨rfl, rfl⟩
        refine R_aload_n (i := 0) (q := 25) dX5_tellRow_24 rfl rfl rfl ?_
        refine R_getI' (q := 28) dX5_tellRow_25 fl_X5_15 rfl (hC) rfl ?_
        have hcl := ct_le (fun s => pro S s == j) (pN S)
        refine R_icmp_ltN (by omega) (by omega) (tgt := 33) (q := 31) dX5_tellRow_28 (by decide) rfl (fun c4 => ?_) (fun c4 => ?_)
        · refine R_aload_n (i := 0) (q := 34) dX5_tellRow_33 rfl rfl rfl ?_
          refine R_getR (q := 37) dX5_tellRow_34 fl_X5_21 rfl (by decide) rfl ?_
          refine R_aload_n (i := 0) (q := 38) dX5_tellRow_37 rfl rfl rfl ?_
          refine R_getI' (q := 41) dX5_tellRow_38 fl_X5_31 rfl (hn) rfl ?_
          refine R_iload_n (i := 1) (q := 42) dX5_tellRow_41 rfl rfl rfl ?_
          refine R_iast (q := 43) dX5_tellRow_42 (rfl) (by omega) (by decide) rfl ?_
          refine R_iconst (v := nI 1) (q := 44) dX5_tellRow_43 (by decide) rfl ?_
          refine R_rz dX5_tellRow_44 rfl (by decide) ?_
          exact Or.inl ⟨rfl, j, hj, rfl, c3, c4, rfl⟩
        · refine R_iconst (v := nI 0) (q := 32) dX5_tellRow_31 (by decide) rfl ?_
          refine R_rz dX5_tellRow_32 rfl (by decide) ?_
          refine Or.inr ⟨rfl, rfl, ?_⟩
          rintro ⟨i, h1, h2, h3, h4⟩
          obtain rfl : j = i := (nI_eq (by omega) (by omega)).mp h2
          omega
theorem c_tellColumn {S : Pic} {y : Int32} {cr : Nat} (hS : StA w p S) (hcr : w.1 (5 :: p) (pN S) = nI cr) (hcr6 : cr < 6) (hR6 : pR S ≤ 6) (hC6 : pC S ≤ 6) (hN : pN S ≤ 20) (hro : ∀ s, s < pN S → pro S s < pR S ∧ pco S s < pC S) : Ct X 0 (d + 1) MX5_tellColumn [vR 5 0 p, vI y] w (qI fun z w' => (z = 1 ∧ ∃ j, j < pC S ∧ y = nI j ∧ (pN S < 20 ∧ pN S < pR S * pC S) ∧ (∀ s, s < pN S → ¬ (pro S s = cr ∧ pco S s = j)) ∧ w' = uI (uI w (6 :: p) (pN S) (nI j)) p 2 (nI (pN S + 1))) ∨ (z = 0 ∧ w' = w ∧ ¬ ∃ j, j < pC S ∧ y = nI j ∧ (pN S < 20 ∧ pN S < pR S * pC S) ∧ ∀ s, s < pN S → ¬ (pro S s = cr ∧ pco S s = j))) := by
  obtain ⟨hR, hC, hn, hsh, hlo, hr5, hco, hdt⟩ := id hS
  refine Ct.of (by decide) rfl (Nat.le_of_ble_eq_true rfl) ?_
  show Wq _ _ _ _ 0 [(0, _), (1, _)] [] _ _
  refine R_iload_n (i := 1) (q := 1) dX5_tellColumn_0 rfl rfl rfl ?_
  refine R_if_lt (tgt := 38) (q := 4) dX5_tellColumn_1 (by decide) rfl (fun c1 => ?_) (fun c1 => ?_)
  · refine R_iconst (v := nI 0) (q := 39) dX5_tellColumn_38 (by decide) rfl ?_
    refine R_rz dX5_tellColumn_39 rfl (by decide) ?_
    exact Or.inr ⟨rfl, rfl, fun ⟨j, h1, h2, h3⟩ => nI_pos (by omega) (h2 ▸ c1)⟩
  · refine R_iload_n (i := 1) (q := 5) dX5_tellColumn_4 rfl rfl rfl ?_
    refine R_aload_n (i := 0) (q := 6) dX5_tellColumn_5 rfl rfl rfl ?_
    refine R_getI' (q := 9) dX5_tellColumn_6 fl_X5_15 rfl (hC) rfl ?_
    refine R_icmp_ge (tgt := 38) (q := 12) dX5_tellColumn_9 (by decide) rfl (fun c2 => ?_) (fun c2 => ?_)
    · refine R_iconst (v := nI 0) (q := 39) dX5_tellColumn_38 (by decide) rfl ?_
      refine R_rz dX5_tellColumn_39 rfl (by decide) ?_
      exact Or.inr ⟨rfl, rfl, fun ⟨j, h1, h2, h3⟩ => nI_ge h1 (by omega) (h2 ▸ c2)⟩
    · obtain ⟨j, hj, rfl⟩ := inN_ex (n := pC S) (by omega) ⟨c1, c2⟩
      refine R_aload_n (i := 0) (q := 13) dX5_tellColumn_12 rfl rfl rfl ?_
      refine R_cV0i (M' := MX5_hasRoom) (q := 16) dX5_tellColumn_13 ml_X5_49 mk_X5_hasRoom (Nat.le_of_ble_eq_true rfl) rfl (c_hasRoom hR hC hn hR6 hC6 hN) ?_
      rintro _ w ⟨rfl, rfl⟩
      refine R_if_eqB (tgt := 38) (q := 19) dX5_tellColumn_16 (by decide) rfl (fun c3 => ?_) (fun c3 => ?_)
      · refine R_iconst (v := nI 0) (q := 39) dX5_tellColumn_38 (by decide) rfl ?_
        refine R_rz dX5_tellColumn_39 rfl (by decide) ?_
        exact Or.inr ⟨rfl, rfl, fun ⟨j, h1, h2, h3, h4⟩ => c3 h3⟩
      · refine R_aload_n (i := 0) (q := 20) dX5_tellColumn_19 rfl rfl rfl ?_
        refine R_aload_n (i := 0) (q := 21) dX5_tellColumn_20 rfl rfl rfl ?_
        refine R_getR (q := 24) dX5_tellColumn_21 fl_X5_21 rfl (by decide) rfl ?_
        refine R_aload_n (i := 0) (q := 25) dX5_tellColumn_24 rfl rfl rfl ?_
        refine R_getI' (q := 28) dX5_tellColumn_25 fl_X5_31 rfl (hn) rfl ?_
        refine R_iald' (q := 29) dX5_tellColumn_28 (rfl) (by omega) (by decide) (hcr) rfl ?_
        refine R_iload_n (i := 1) (q := 30) dX5_tellColumn_29 rfl rfl rfl ?_
        refine R_cV2i (M' := MX5_shadeIn) (q := 33) dX5_tellColumn_30 ml_X5_57 mk_X5_shadeIn (Nat.le_of_ble_eq_true rfl) rfl (c_shadeIn hS hN (by omega) (by omega) (fun s hs => by have := hro s hs; omega)) ?_
        rintro x w ⟨hx, rfl⟩
        refine R_bipush (v := (-9)) (q := 35) dX5_tellColumn_33 (by decide) rfl ?_
        refine R_icmp_eq (tgt := 40) (q := 38) dX5_tellColumn_35 (by decide) rfl (fun c4 => ?_) (fun c4 => ?_)
        · have hfree : ∀ s, s < pN S → ¬ (pro S s = cr ∧ pco S s = j) := by
            rcases hx with ⟨s, hs, _, _, rfl⟩ | ⟨h, _⟩
            · exact absurd c4 (fun h => by have := nI_pos (n := s) (by omega); rw [h] at this; exact this (by decide))
            · exact h
          refine R_aload_n (i := 0) (q := 41) dX5_tellColumn_40 rfl rfl rfl ?_
          refine R_getR (q := 44) dX5_tellColumn_41 fl_X5_25 rfl (by decide) rfl ?_
          refine R_aload_n (i := 0) (q := 45) dX5_tellColumn_44 rfl rfl rfl ?_
          refine R_getI' (q := 48) dX5_tellColumn_45 fl_X5_31 rfl (hn) rfl ?_
          refine R_iload_n (i := 1) (q := 49) dX5_tellColumn_48 rfl rfl rfl ?_
          refine R_iast (q := 50) dX5_tellColumn_49 (rfl) (by omega) (by decide) rfl ?_
          refine R_aload_n (i := 0) (q := 51) dX5_tellColumn_50 rfl rfl rfl ?_
          refine R_dup (q := 52) dX5_tellColumn_51 rfl rfl ?_
          refine R_getI' (q := 55) dX5_tellColumn_52 fl_X5_31 rfl ((uI_nep cns2).trans hn) rfl ?_
          refine R_iconst (v := nI 1) (q := 56) dX5_tellColumn_55 (by decide) rfl ?_
          first | refine R_iaddN (q := 57) dX5_tellColumn_56 rfl ?_ | refine R_iadd (q := 57) dX5_tellColumn_56 rfl ?_
          refine R_putI (q := 60) dX5_tellColumn_57 fl_X5_31 rfl rfl ?_
          refine R_iconst (v := nI 1) (q := 61) dX5_tellColumn_60 (by decide) rfl ?_
          refine R_rz dX5_tellColumn_61 rfl (by decide) ?_
          exact Or.inl ⟨rfl, j, hj, rfl, c3, hfree, rfl⟩
        · refine R_iconst (v := nI 0) (q := 39) dX5_tellColumn_38 (by decide) rfl ?_
          refine R_rz dX5_tellColumn_39 rfl (by decide) ?_
          refine Or.inr ⟨rfl, rfl, ?_⟩
          rintro ⟨i, h1, h2, h3, h4⟩
          obtain rfl : j = i := (nI_eq (by omega) (by omega)).mp h2
          rcases hx with ⟨s, hs, h5, h6, rfl⟩ | ⟨_, h⟩
          · exact h4 s hs ⟨h5, h6⟩
          · exact c4 h
end ST
end
section
section TX
variable {X : Cx} {d : Nat} {p t : List Nat} {w : Wd}
/-- a reading's state in the cells -/
def RdA (w : Wd) (p : List Nat) (st : RS) (k : Nat) : Prop := StA w p (rsP st) ∧ (3 ≤ k → k % 3 = 2 → w.1 (5 :: p) st.2.2.1 = nI st.2.2.2.2.2) ∧ RI st k
theorem c_tadd {n : Nat} {x : Int32} (hn : w.1 t 1 = nI n) (hN : n ≤ 70) : Ct X 0 d MX6_add [vR 6 0 t, vI x] w (qI fun z w' => (n < 70 ∧ z = 1 ∧ w' = uI (uI w (0 :: t) n x) t 1 (nI (n + 1))) ∨ (n = 70 ∧ z = 0 ∧ w' = w)) := by
  refine Ct.of (by decide) rfl (Nat.le_of_ble_eq_true rfl) ?_
  show Wq _ _ _ _ 0 [(0, _), (1, _)] [] _ _
  refine R_aload_n (i := 0) (q := 1) dX6_add_0 rfl rfl rfl ?_
  refine R_getI' (q := 4) dX6_add_1 fl_X6_15 rfl (hn) rfl ?_
  refine R_bipush (v := nI 70) (q := 6) dX6_add_4 (by decide) rfl ?_
  refine R_icmp_ltN (by omega) (by omega) (tgt := 11) (q := 9) dX6_add_6 (by decide) rfl (fun c1 => ?_) (fun c1 => ?_)
  · refine R_aload_n (i := 0) (q := 12) dX6_add_11 rfl rfl rfl ?_
    refine R_getR (q := 15) dX6_add_12 fl_X6_9 rfl (by decide) rfl ?_
    refine R_aload_n (i := 0) (q := 16) dX6_add_15 rfl rfl rfl ?_
    refine R_getI' (q := 19) dX6_add_16 fl_X6_15 rfl (hn) rfl ?_
    refine R_iload_n (i := 1) (q := 20) dX6_add_19 rfl rfl rfl ?_
    refine R_iast (q := 21) dX6_add_20 (rfl) (by omega) (by decide) rfl ?_
    refine R_aload_n (i := 0) (q := 22) dX6_add_21 rfl rfl rfl ?_
    refine R_dup (q := 23) dX6_add_22 rfl rfl ?_
    refine R_getI' (q := 26) dX6_add_23 fl_X6_15 rfl ((uI_nep cns2).trans hn) rfl ?_
    refine R_iconst (v := nI 1) (q := 27) dX6_add_26 (by decide) rfl ?_
    first | refine R_iaddN (q := 28) dX6_add_27 rfl ?_ | refine R_iadd (q := 28) dX6_add_27 rfl ?_
    refine R_putI (q := 31) dX6_add_28 fl_X6_15 rfl rfl ?_
    refine R_iconst (v := nI 1) (q := 32) dX6_add_31 (by decide) rfl ?_
    refine R_rz dX6_add_32 rfl (by decide) ?_
    exact Or.inl ⟨c1, rfl, rfl⟩
  · refine R_iconst (v := nI 0) (q := 10) dX6_add_9 (by decide) rfl ?_
    refine R_rz dX6_add_10 rfl (by decide) ?_
    exact Or.inr ⟨by omega, rfl, rfl⟩
theorem c_takes {st : RS} {k : Nat} {x : Int32} (hk : k < 70) (hA : RdA w p st k) : Ct X 0 (d + 2) MX6_takes [vR 5 0 p, vI (nI k), vI x] w (qI fun z w' => ((z = 1 ∧ ∃ st', rst st k x = some st' ∧ RdA w' p st' (k + 1)) ∨ (z = 0 ∧ rst st k x = none)) ∧ Fr [p, 5 :: p, 6 :: p] w w') := by
  obtain ⟨hS, hcr, hI⟩ := id hA
  obtain ⟨hR, hC, hn, hsh, hlo, hro, hco, hdt⟩ := id hS
  obtain ⟨i1, i2, i3, i4, i5, i6, i7, i8⟩ := id hI
  have hR6 : pR (rsP st) ≤ 6 := i1.2
  have hC6 : pC (rsP st) ≤ 6 := i2.2
  have hN20 : pN (rsP st) ≤ 20 := i3
  have fgj : ∀ {j n : Nat}, j < n → n ≤ 7 → x - nI 48 = nI j → inN (fgI x) n ∧ fgN x = j := by
    intro j n h1 h2 h3
    refine ⟨?_, ?_⟩
    · show inN (x - nI 48) n
      rw [h3]
      exact (inN_nI (by omega) (by omega)).mpr h1
    · unfold fgN
      rw [h3, nI_clamp (by omega)]
  refine Ct.of (by decide) rfl (Nat.le_of_ble_eq_true rfl) ?_
  show Wq _ _ _ _ 0 [(0, _), (1, _), (2, _)] [] _ _
  refine R_iload_n (i := 2) (q := 1) dX6_takes_0 rfl rfl rfl ?_
  refine R_bipush (v := nI 48) (q := 3) dX6_takes_1 (by decide) rfl ?_
  refine R_isub (q := 4) dX6_takes_3 rfl ?_
  refine R_istore_n (i := 3) (q := 5) (loc' := [(3, _), (0, _), (1, _), (2, _)]) dX6_takes_4 rfl (by decide) (by rfl) rfl ?_
  refine R_iload_n (i := 1) (q := 6) dX6_takes_5 rfl rfl rfl ?_
  by_cases k0 : k = 0
  · subst k0
    have er : rst st 0 x = if x = nI 77 then some st else none := by
      unfold rst
      rw [if_pos rfl]
    refine R_tableIn (q := 32) dX6_takes_6 (by decide) (by decide) (by rfl) (by decide) ?_
    refine R_iload_n (i := 2) (q := 33) dX6_takes_32 rfl rfl rfl ?_
    refine R_bipush (v := nI 77) (q := 35) dX6_takes_33 (by decide) rfl ?_
    refine R_icmp_ne (tgt := 42) (q := 38) dX6_takes_35 (by decide) rfl (fun c1 => ?_) (fun c1 => ?_)
    · refine R_iconst (v := nI 0) (q := 43) dX6_takes_42 (by decide) rfl ?_
      refine R_rz dX6_takes_43 rfl (by decide) ?_
      exact ⟨Or.inr ⟨rfl, by rw [er, if_neg c1]⟩, Fr.rf⟩
    · refine R_iconst (v := nI 1) (q := 39) dX6_takes_38 (by decide) rfl ?_
      refine R_goto (q := 43) dX6_takes_39 (by decide) ?_
      refine R_rz dX6_takes_43 rfl (by decide) ?_
      have e2 : rst st 0 x = some st := by rw [er, if_pos c1]
      exact ⟨Or.inl ⟨rfl, st, e2, hS, fun h => absurd h (by decide), RI_step hI e2⟩, Fr.rf⟩
  by_cases k1 : k = 1
  · subst k1
    have er : rst st 1 x = if inN (fgI x) 7 ∧ 1 ≤ fgN x then some (fgN x, st.2.1, st.2.2.1, st.2.2.2.1, st.2.2.2.2.1, st.2.2.2.2.2) else none := by
      unfold rst
      rw [if_neg (by decide), if_pos rfl]
    refine R_tableIn (q := 44) dX6_takes_6 (by decide) (by decide) (by rfl) (by decide) ?_
    refine R_aload_n (i := 0) (q := 45) dX6_takes_44 rfl rfl rfl ?_
    refine R_iload_n (i := 3) (q := 46) dX6_takes_45 rfl rfl rfl ?_
    refine R_cV1i (M' := MX5_tellRows) (q := 49) dX6_takes_46 ml_X6_28 mk_X5_tellRows (Nat.le_of_ble_eq_true rfl) rfl (c_tellRows) ?_
    rintro z w1 hz
    rcases hz with ⟨rfl, j, j1, j6, ej, rfl⟩ | ⟨rfl, rfl, hno⟩
    · refine R_rz dX6_takes_49 rfl (by decide) ?_
      have hf := fgj (n := 7) (by omega) (by decide) ej
      have e2 : rst st 1 x = some (j, st.2.1, st.2.2.1, st.2.2.2.1, st.2.2.2.2.1, st.2.2.2.2.2) := by rw [er, hf.2, if_pos ⟨hf.1, j1⟩]
      have n0 : st.2.2.1 = 0 := i6 (by decide)
      refine ⟨Or.inl ⟨rfl, _, e2, ?_, fun h => absurd h (by decide), RI_step hI e2⟩, Fr.i (by simp)⟩
      refine ⟨?_, ?_, ?_, ?_, ?_, ?_, ?_, ?_⟩
      · exact uI_same w p 0 (nI j)
      · exact (uI_ne (by decide)).trans hC
      · exact (uI_ne (by decide)).trans hn
      · exact (uI_ne (by decide)).trans hsh
      · exact (uI_ne (by decide)).trans hlo
      · intro s hs
        exact (uI_nep cns).trans (hro s hs)
      · intro s hs
        exact (uI_nep cns).trans (hco s hs)
      · intro s hs
        exact (uI_nep cns).trans (hdt s hs)
    · refine R_rz dX6_takes_49 rfl (by decide) ?_
      refine ⟨Or.inr ⟨rfl, ?_⟩, Fr.rf⟩
      rw [er, if_neg]
      rintro ⟨h1, h2⟩
      have h3 := fgN_eq (by decide) h1
      exact hno ⟨fgN x, h2, by omega, h3.2⟩
  by_cases k2 : k = 2
  · subst k2
    have er : rst st 2 x = if inN (fgI x) 7 ∧ 1 ≤ fgN x then some (st.1, fgN x, st.2.2.1, st.2.2.2.1, st.2.2.2.2.1, st.2.2.2.2.2) else none := by
      unfold rst
      rw [if_neg (by decide), if_neg (by decide), if_pos rfl]
    refine R_tableIn (q := 50) dX6_takes_6 (by decide) (by decide) (by rfl) (by decide) ?_
    refine R_aload_n (i := 0) (q := 51) dX6_takes_50 rfl rfl rfl ?_
    refine R_iload_n (i := 3) (q := 52) dX6_takes_51 rfl rfl rfl ?_
    refine R_cV1i (M' := MX5_tellColumns) (q := 55) dX6_takes_52 ml_X6_32 mk_X5_tellColumns (Nat.le_of_ble_eq_true rfl) rfl (c_tellColumns) ?_
    rintro z w1 hz
    rcases hz with ⟨rfl, j, j1, j6, ej, rfl⟩ | ⟨rfl, rfl, hno⟩
    · refine R_rz dX6_takes_55 rfl (by decide) ?_
      have hf := fgj (n := 7) (by omega) (by decide) ej
      have e2 : rst st 2 x = some (st.1, j, st.2.2.1, st.2.2.2.1, st.2.2.2.2.1, st.2.2.2.2.2) := by rw [er, hf.2, if_pos ⟨hf.1, j1⟩]
      refine ⟨Or.inl ⟨rfl, _, e2, ?_, fun h h2 => absurd h2 (by decide), RI_step hI e2⟩, Fr.i (by simp)⟩
      refine ⟨?_, ?_, ?_, ?_, ?_, ?_, ?_, ?_⟩
      · exact (uI_ne (by decide)).trans hR
      · exact uI_same w p 1 (nI j)
      · exact (uI_ne (by decide)).trans hn
      · exact (uI_ne (by decide)).trans hsh
      · exact (uI_ne (by decide)).trans hlo
      · intro s hs
        exact (uI_nep cns).trans (hro s hs)
      · intro s hs
        exact (uI_nep cns).trans (hco s hs)
      · intro s hs
        exact (uI_nep cns).trans (hdt s hs)
    · refine R_rz dX6_takes_55 rfl (by decide) ?_
      refine ⟨Or.inr ⟨rfl, ?_⟩, Fr.rf⟩
      rw [er, if_neg]
      rintro ⟨h1, h2⟩
      have h3 := fgN_eq (by decide) h1
      exact hno ⟨fgN x, h2, by omega, h3.2⟩
  refine R_tableOut (q := 56) dX6_takes_6 (Or.inr (by rw [nI_toInt (by omega)]; omega)) (by decide) ?_
  refine R_iload_n (i := 1) (q := 57) dX6_takes_56 rfl rfl rfl ?_
  refine R_iconst (v := nI 3) (q := 58) dX6_takes_57 (by decide) rfl ?_
  refine R_iremN (by omega) (by omega) (by omega) (q := 59) dX6_takes_58 rfl ?_
  have hm3 : k % 3 < 3 := Nat.mod_lt _ (by decide)
  by_cases m0 : k % 3 = 0
  · rw [m0]
    have er : rst st k x = if x = nI 105 ∧ rsRoom st then some st else none := by
      unfold rst
      rw [if_neg k0, if_neg k1, if_neg k2, if_pos m0]
    refine R_lookup (q := 84) dX6_takes_59 (by decide) (by rfl) (by decide) ?_
    refine R_iload_n (i := 2) (q := 85) dX6_takes_84 rfl rfl rfl ?_
    refine R_bipush (v := nI 105) (q := 87) dX6_takes_85 (by decide) rfl ?_
    refine R_icmp_ne (tgt := 101) (q := 90) dX6_takes_87 (by decide) rfl (fun c1 => ?_) (fun c1 => ?_)
    · refine R_iconst (v := nI 0) (q := 102) dX6_takes_101 (by decide) rfl ?_
      refine R_rz dX6_takes_102 rfl (by decide) ?_
      exact ⟨Or.inr ⟨rfl, by rw [er, if_neg (fun h => c1 h.1)]⟩, Fr.rf⟩
    · refine R_aload_n (i := 0) (q := 91) dX6_takes_90 rfl rfl rfl ?_
      refine R_cV0i (M' := MX5_hasRoom) (q := 94) dX6_takes_91 ml_X6_35 mk_X5_hasRoom (Nat.le_of_ble_eq_true rfl) rfl (c_hasRoom hR hC hn hR6 hC6 hN20) ?_
      rintro _ w ⟨rfl, rfl⟩
      refine R_if_eqB (tgt := 101) (q := 97) dX6_takes_94 (by decide) rfl (fun c2 => ?_) (fun c2 => ?_)
      · refine R_iconst (v := nI 0) (q := 102) dX6_takes_101 (by decide) rfl ?_
        refine R_rz dX6_takes_102 rfl (by decide) ?_
        exact ⟨Or.inr ⟨rfl, by rw [er, if_neg (fun h => c2 h.2)]⟩, Fr.rf⟩
      · refine R_iconst (v := nI 1) (q := 98) dX6_takes_97 (by decide) rfl ?_
        refine R_goto (q := 102) dX6_takes_98 (by decide) ?_
        refine R_rz dX6_takes_102 rfl (by decide) ?_
        have e2 : rst st k x = some st := by rw [er, if_pos ⟨c1, c2⟩]
        exact ⟨Or.inl ⟨rfl, st, e2, hS, fun _ h => absurd h (by omega), RI_step hI e2⟩, Fr.rf⟩
  have hroom := i7 (by omega) m0
  by_cases m1 : k % 3 = 1
  · rw [m1]
    have er : rst st k x = if inN (fgI x) st.1 ∧ ct (fun s => st.2.2.2.1 s == fgN x) st.2.2.1 < st.2.1 then some (st.1, st.2.1, st.2.2.1, st.2.2.2.1, st.2.2.2.2.1, fgN x) else none := by
      unfold rst
      rw [if_neg k0, if_neg k1, if_neg k2, if_neg m0, if_pos m1]
    refine R_lookup (q := 103) dX6_takes_59 (by decide) (by rfl) (by decide) ?_
    refine R_aload_n (i := 0) (q := 104) dX6_takes_103 rfl rfl rfl ?_
    refine R_iload_n (i := 3) (q := 105) dX6_takes_104 rfl rfl rfl ?_
    refine R_cV1i (M' := MX5_tellRow) (q := 108) dX6_takes_105 ml_X6_39 mk_X5_tellRow (Nat.le_of_ble_eq_true rfl) rfl (c_tellRow hS hR6 hC6 hN20 (fun s hs => (i4 s hs).1)) ?_
    rintro z w1 hz
    rcases hz with ⟨rfl, j, j1, ej, j2, j3, rfl⟩ | ⟨rfl, rfl, hno⟩
    · refine R_rz dX6_takes_108 rfl (by decide) ?_
      have j1 : j < st.1 := j1
      have hf := fgj (n := st.1) j1 (by omega) ej
      have e2 : rst st k x = some (st.1, st.2.1, st.2.2.1, st.2.2.2.1, st.2.2.2.2.1, j) := by
        rw [er, hf.2, if_pos ⟨hf.1, j3⟩]
      refine ⟨Or.inl ⟨rfl, _, e2, ?_, fun _ _ => ?_, RI_step hI e2⟩, Fr.i (by simp)⟩
      · refine ⟨?_, ?_, ?_, ?_, ?_, ?_, ?_, ?_⟩
        · exact (uI_nep cns2).trans hR
        · exact (uI_nep cns2).trans hC
        · exact (uI_nep cns2).trans hn
        · exact (uI_nep cns2).trans hsh
        · exact (uI_nep cns2).trans hlo
        · intro s hs
          exact (uI_ne (Nat.ne_of_lt hs)).trans (hro s hs)
        · intro s hs
          exact (uI_nep (by simp)).trans (hco s hs)
        · intro s hs
          exact (uI_nep (by simp)).trans (hdt s hs)
      · exact uI_same w (5 :: p) _ (nI j)
    · refine R_rz dX6_takes_108 rfl (by decide) ?_
      refine ⟨Or.inr ⟨rfl, ?_⟩, Fr.rf⟩
      rw [er, if_neg]
      rintro ⟨h1, h2⟩
      have h3 := fgN_eq (by omega) h1
      exact hno ⟨fgN x, h3.1, h3.2, hroom, h2⟩
  have m2 : k % 3 = 2 := by omega
  rw [m2]
  have er : rst st k x = if inN (fgI x) st.2.1 ∧ ∀ s, s < st.2.2.1 → ¬ (st.2.2.2.1 s = st.2.2.2.2.2 ∧ st.2.2.2.2.1 s = fgN x) then some (st.1, st.2.1, st.2.2.1 + 1, fnU st.2.2.2.1 st.2.2.1 st.2.2.2.2.2, fnU st.2.2.2.2.1 st.2.2.1 (fgN x), st.2.2.2.2.2) else none := by
    unfold rst
    rw [if_neg k0, if_neg k1, if_neg k2, if_neg m0, if_neg m1]
  have hcr1 := i8 (by omega) m2
  refine R_lookup (q := 109) dX6_takes_59 (by decide) (by rfl) (by decide) ?_
  refine R_aload_n (i := 0) (q := 110) dX6_takes_109 rfl rfl rfl ?_
  refine R_iload_n (i := 3) (q := 111) dX6_takes_110 rfl rfl rfl ?_
  refine R_cV1i (M' := MX5_tellColumn) (q := 114) dX6_takes_111 ml_X6_42 mk_X5_tellColumn (Nat.le_of_ble_eq_true rfl) rfl (c_tellColumn hS (hcr (by omega) m2) (by omega) hR6 hC6 hN20 i4) ?_
  rintro z w1 hz
  rcases hz with ⟨rfl, j, j1, ej, j2, j3, rfl⟩ | ⟨rfl, rfl, hno⟩
  · refine R_rz dX6_takes_114 rfl (by decide) ?_
    have j1 : j < st.2.1 := j1
    have hf := fgj (n := st.2.1) j1 (by omega) ej
    have e2 : rst st k x = some (st.1, st.2.1, st.2.2.1 + 1, fnU st.2.2.2.1 st.2.2.1 st.2.2.2.2.2, fnU st.2.2.2.2.1 st.2.2.1 j, st.2.2.2.2.2) := by
      rw [er, hf.2, if_pos ⟨hf.1, j3⟩]
    refine ⟨Or.inl ⟨rfl, _, e2, ?_, fun _ h => absurd h (by omega), RI_step hI e2⟩, (Fr.i (by simp)).tr (Fr.i (by simp))⟩
    refine ⟨?_, ?_, ?_, ?_, ?_, ?_, ?_, ?_⟩
    · exact (uI_ne (by decide)).trans ((uI_nep cns2).trans hR)
    · exact (uI_ne (by decide)).trans ((uI_nep cns2).trans hC)
    · exact uI_same _ p 2 _
    · exact (uI_ne (by decide)).trans ((uI_nep cns2).trans hsh)
    · exact (uI_ne (by decide)).trans ((uI_nep cns2).trans hlo)
    · intro s hs
      have hs : s < st.2.2.1 + 1 := hs
      refine (uI_nep cns).trans ((uI_nep (by simp)).trans ?_)
      show _ = nI (fnU st.2.2.2.1 st.2.2.1 st.2.2.2.2.2 s)
      unfold fnU
      by_cases hh : s = st.2.2.1
      · rw [if_pos hh, hh]
        exact hcr (by omega) m2
      · rw [if_neg hh]
        exact hro s (show s < st.2.2.1 by omega)
    · intro s hs
      have hs : s < st.2.2.1 + 1 := hs
      refine (uI_nep cns).trans ?_
      show _ = nI (fnU st.2.2.2.2.1 st.2.2.1 j s)
      unfold fnU
      by_cases hh : s = st.2.2.1
      · rw [if_pos hh, hh]
        exact uI_same w (6 :: p) _ (nI j)
      · rw [if_neg hh]
        exact (uI_ne hh).trans (hco s (show s < st.2.2.1 by omega))
    · intro s hs
      exact (uI_nep cns).trans ((uI_nep (by simp)).trans (hdt s hs))
  · refine R_rz dX6_takes_114 rfl (by decide) ?_
    refine ⟨Or.inr ⟨rfl, ?_⟩, Fr.rf⟩
    rw [er, if_neg]
    rintro ⟨h1, h2⟩
    have h3 := fgN_eq (by omega) h1
    exact hno ⟨fgN x, h3.1, h3.2, hroom, h2⟩
theorem l_readInto {len : Nat} {tx : Nat → Int32} {w0 : Wd} (hlen : len ≤ 70) (hl0 : w0.1 t 1 = nI len) (htx : ∀ i, i < len → w0.1 (0 :: t) i = tx i) (ht : t ∉ [p, 5 :: p, 6 :: p, 7 :: p]) (ht0 : (0 :: t) ∉ [p, 5 :: p, 6 :: p, 7 :: p]) : ∀ (j k : Nat) (w : Wd) (st : RS), len ≤ k + j → k ≤ len → rdL tx k = some st → RdA w p st k → Fr [p, 5 :: p, 6 :: p, 7 :: p] w0 w → Wq X 0 (d + 3) MX6_readInto 6 [(2, vI (nI k)), (0, vR 6 0 t), (1, vR 5 0 p)] [] w (qI fun x w' => RdQ tx len x (fun S => StA w' p S) ∧ Fr [p, 5 :: p, 6 :: p, 7 :: p] w0 w') := by
  intro j
  induction j with
  | zero =>
    intro k w st h1 h2 hrd hA hF
    have hl9 : w.1 t 1 = nI len := by rw [hF.2 t ht]; exact hl0
    refine R_iload_n (i := 2) (q := 7) dX6_readInto_6 rfl rfl rfl ?_
    refine R_aload_n (i := 0) (q := 8) dX6_readInto_7 rfl rfl rfl ?_
    refine R_getI' (q := 11) dX6_readInto_8 fl_X6_15 rfl (hl9) rfl ?_
    refine R_icmp_geN (by omega) (by omega) (tgt := 36) (q := 14) dX6_readInto_11 (by decide) rfl (fun c1 => ?_) (fun c1 => ?_)
    · obtain rfl : k = len := by omega
      refine R_aload_n (i := 0) (q := 37) dX6_readInto_36 rfl rfl rfl ?_
      refine R_getI' (q := 40) dX6_readInto_37 fl_X6_15 rfl (hl9) rfl ?_
      refine R_if_le (tgt := 57) (q := 43) dX6_readInto_40 (by decide) rfl (fun c2 => ?_) (fun c2 => ?_)
      · refine R_aload_n (i := 0) (q := 58) dX6_readInto_57 rfl rfl rfl ?_
        refine R_getI' (q := 61) dX6_readInto_58 fl_X6_15 rfl (hl9) rfl ?_
        refine R_ri dX6_readInto_61 rfl ?_
        refine ⟨Or.inr ⟨st, hrd, Or.inr ⟨?_, rfl⟩⟩, hF⟩
        rintro ⟨h0, -⟩
        exact nI_nle h0 (by omega) c2
      · have hpos : 0 < k := by
          rcases Nat.eq_zero_or_pos k with h | h
          · exact absurd (by rw [h]; decide) c2
          · exact h
        refine R_aload_n (i := 0) (q := 44) dX6_readInto_43 rfl rfl rfl ?_
        refine R_getI' (q := 47) dX6_readInto_44 fl_X6_15 rfl (hl9) rfl ?_
        refine R_iconst (v := nI 3) (q := 48) dX6_readInto_47 (by decide) rfl ?_
        refine R_iremN (by omega) (by omega) (by omega) (q := 49) dX6_readInto_48 rfl ?_
        refine R_if_neN (by omega) (tgt := 57) (q := 52) dX6_readInto_49 (by decide) rfl (fun c3 => ?_) (fun c3 => ?_)
        · refine R_aload_n (i := 0) (q := 58) dX6_readInto_57 rfl rfl rfl ?_
          refine R_getI' (q := 61) dX6_readInto_58 fl_X6_15 rfl (hl9) rfl ?_
          refine R_ri dX6_readInto_61 rfl ?_
          exact ⟨Or.inr ⟨st, hrd, Or.inr ⟨fun h => c3 h.2, rfl⟩⟩, hF⟩
        · refine R_bipush (v := (-9)) (q := 54) dX6_readInto_52 (by decide) rfl ?_
          refine R_goto (q := 61) dX6_readInto_54 (by decide) ?_
          refine R_ri dX6_readInto_61 rfl ?_
          exact ⟨Or.inr ⟨st, hrd, Or.inl ⟨hpos, c3, rfl, hA.1⟩⟩, hF⟩
    · omega
  | succ j ih =>
    intro k w st h1 h2 hrd hA hF
    have hl9 : w.1 t 1 = nI len := by rw [hF.2 t ht]; exact hl0
    refine R_iload_n (i := 2) (q := 7) dX6_readInto_6 rfl rfl rfl ?_
    refine R_aload_n (i := 0) (q := 8) dX6_readInto_7 rfl rfl rfl ?_
    refine R_getI' (q := 11) dX6_readInto_8 fl_X6_15 rfl (hl9) rfl ?_
    refine R_icmp_geN (by omega) (by omega) (tgt := 36) (q := 14) dX6_readInto_11 (by decide) rfl (fun c1 => ?_) (fun c1 => ?_)
    · obtain rfl : k = len := by omega
      refine R_aload_n (i := 0) (q := 37) dX6_readInto_36 rfl rfl rfl ?_
      refine R_getI' (q := 40) dX6_readInto_37 fl_X6_15 rfl (hl9) rfl ?_
      refine R_if_le (tgt := 57) (q := 43) dX6_readInto_40 (by decide) rfl (fun c2 => ?_) (fun c2 => ?_)
      · refine R_aload_n (i := 0) (q := 58) dX6_readInto_57 rfl rfl rfl ?_
        refine R_getI' (q := 61) dX6_readInto_58 fl_X6_15 rfl (hl9) rfl ?_
        refine R_ri dX6_readInto_61 rfl ?_
        refine ⟨Or.inr ⟨st, hrd, Or.inr ⟨?_, rfl⟩⟩, hF⟩
        rintro ⟨h0, -⟩
        exact nI_nle h0 (by omega) c2
      · have hpos : 0 < k := by
          rcases Nat.eq_zero_or_pos k with h | h
          · exact absurd (by rw [h]; decide) c2
          · exact h
        refine R_aload_n (i := 0) (q := 44) dX6_readInto_43 rfl rfl rfl ?_
        refine R_getI' (q := 47) dX6_readInto_44 fl_X6_15 rfl (hl9) rfl ?_
        refine R_iconst (v := nI 3) (q := 48) dX6_readInto_47 (by decide) rfl ?_
        refine R_iremN (by omega) (by omega) (by omega) (q := 49) dX6_readInto_48 rfl ?_
        refine R_if_neN (by omega) (tgt := 57) (q := 52) dX6_readInto_49 (by decide) rfl (fun c3 => ?_) (fun c3 => ?_)
        · refine R_aload_n (i := 0) (q := 58) dX6_readInto_57 rfl rfl rfl ?_
          refine R_getI' (q := 61) dX6_readInto_58 fl_X6_15 rfl (hl9) rfl ?_
          refine R_ri dX6_readInto_61 rfl ?_
          exact ⟨Or.inr ⟨st, hrd, Or.inr ⟨fun h => c3 h.2, rfl⟩⟩, hF⟩
        · refine R_bipush (v := (-9)) (q := 54) dX6_readInto_52 (by decide) rfl ?_
          refine R_goto (q := 61) dX6_readInto_54 (by decide) ?_
          refine R_ri dX6_readInto_61 rfl ?_
          exact ⟨Or.inr ⟨st, hrd, Or.inl ⟨hpos, c3, rfl, hA.1⟩⟩, hF⟩
    · have htx9 : w.1 (0 :: t) k = tx k := by rw [hF.2 _ ht0]; exact htx k c1
      refine R_aload_n (i := 1) (q := 15) dX6_readInto_14 rfl rfl rfl ?_
      refine R_iload_n (i := 2) (q := 16) dX6_readInto_15 rfl rfl rfl ?_
      refine R_aload_n (i := 0) (q := 17) dX6_readInto_16 rfl rfl rfl ?_
      refine R_getR (q := 20) dX6_readInto_17 fl_X6_9 rfl (by decide) rfl ?_
      refine R_iload_n (i := 2) (q := 21) dX6_readInto_20 rfl rfl rfl ?_
      refine R_iald' (q := 22) dX6_readInto_21 (rfl) (by omega) (by decide) (htx9) rfl ?_
      refine R_cS3i (M' := MX6_takes) (q := 25) dX6_readInto_22 ml_X6_24 mk_X6_takes (Nat.le_of_ble_eq_true rfl) rfl (c_takes (by omega) hA) ?_
      rintro z w1 ⟨hz, hF1⟩
      have hF2 := hF.tr (hF1.up (G := [p, 5 :: p, 6 :: p, 7 :: p]) (by simp))
      have hnx : rdL tx (k + 1) = rst st k (tx k) := by
        simp only [rdL, hrd]
      rcases hz with ⟨rfl, st', e, hA'⟩ | ⟨rfl, e⟩
      · refine R_if_ne (tgt := 30) (q := 28) dX6_readInto_25 (by decide) rfl (fun c4 => ?_) (fun c4 => ?_)
        · first | refine R_iincN (q := 33) (loc' := [(2, _), (0, _), (1, _)]) dX6_readInto_30 (by rfl) (by decide) (by rfl) rfl ?_ | refine R_iinc (q := 33) (loc' := [(2, _), (0, _), (1, _)]) dX6_readInto_30 (by rfl) (by rfl) (by decide) (by rfl) rfl ?_
          refine R_goto (q := 6) dX6_readInto_33 (by decide) ?_
          exact ih (k + 1) w1 st' (by omega) (by omega) (by rw [hnx, e]) hA' hF2
        · exact absurd c4 (by decide)
      · refine R_if_ne (tgt := 30) (q := 28) dX6_readInto_25 (by decide) rfl (fun c4 => ?_) (fun c4 => ?_)
        · exact absurd rfl c4
        · refine R_iload_n (i := 2) (q := 29) dX6_readInto_28 rfl rfl rfl ?_
          refine R_ri dX6_readInto_29 rfl ?_
          exact ⟨Or.inl ⟨k, c1, ⟨st, hrd⟩, by rw [hnx, e], rfl⟩, hF2⟩
theorem c_readInto {len : Nat} {tx : Nat → Int32} (hlen : len ≤ 70) (hl0 : w.1 t 1 = nI len) (htx : ∀ i, i < len → w.1 (0 :: t) i = tx i) (ht : t ∉ [p, 5 :: p, 6 :: p, 7 :: p]) (ht0 : (0 :: t) ∉ [p, 5 :: p, 6 :: p, 7 :: p]) : Ct X 0 (d + 3) MX6_readInto [vR 6 0 t, vR 5 0 p] w (qI fun x w' => RdQ tx len x (fun S => StA w' p S) ∧ Fr [p, 5 :: p, 6 :: p, 7 :: p] w w') := by
  refine Ct.of (by decide) rfl (Nat.le_of_ble_eq_true rfl) ?_
  show Wq _ _ _ _ 0 [(0, _), (1, _)] [] _ _
  refine R_aload_n (i := 1) (q := 1) dX6_readInto_0 rfl rfl rfl ?_
  refine R_cV0v (M' := MX5_renew) (q := 4) dX6_readInto_1 ml_X6_19 mk_X5_renew (Nat.le_of_ble_eq_true rfl) rfl (c_renew (fun _ => 0) (fun _ => 0)) ?_
  rintro w1 ⟨hS1, hF1⟩
  refine R_iconst (v := nI 0) (q := 5) dX6_readInto_4 (by decide) rfl ?_
  refine R_istore_n (i := 2) (q := 6) (loc' := [(2, _), (0, _), (1, _)]) dX6_readInto_5 rfl (by decide) (by rfl) rfl ?_
  exact l_readInto hlen hl0 htx ht ht0 len 0 w1 rs0 (by omega) (by omega) rfl ⟨hS1, fun h => absurd h (by decide), RI_0⟩ (hF1.up (by simp))
end TX
end
section
/-! guesses -/
def cH (f : Nat → Nat) (i n : Nat) : Nat := ct (fun s => f s == i) n
def sH (f : Nat → Nat) (i n : Nat) : Nat := sm (fun s => if f s == i then s else 0) n
def nrN (c s : Nat) : Nat := (2 * s + c - 1) / (2 * c)
def nrI (c s : Nat) : Int32 := if c = 0 then -9 else nI (nrN c s)
def gN (f : Nat → Nat) (i n : Nat) : Nat := nrN (cH f i n) (sH f i n)
def gI (f : Nat → Nat) (i n : Nat) : Int32 := nrI (cH f i n) (sH f i n)
def sd (f : Nat → Nat) (n : Nat) : Nat := sm (fun s => sq s (gN f (f s) n)) n
theorem sH_le (f : Nat → Nat) (i : Nat) (m : Nat) : ∀ n, n ≤ m + 1 → sH f i n ≤ m * cH f i n
  | 0, _ => by simp [sH, cH, sm, ct]
  | n + 1, h => by
    have h1 := sH_le f i m n (by omega)
    simp only [sH, cH, sm, ct] at h1 ⊢
    by_cases hf : (f n == i) = true
    · rw [if_pos hf, if_pos hf, Nat.mul_add]
      omega
    · rw [if_neg hf, if_neg hf]
      omega
theorem cH_pos {f : Nat → Nat} {i : Nat} : ∀ {n k : Nat}, k < n → f k = i → 0 < cH f i n
  | 0, k, h, _ => absurd h (Nat.not_lt_zero k)
  | n + 1, k, h, e => by
    simp only [cH, ct]
    rcases Nat.lt_or_ge k n with h2 | h2
    · have := cH_pos h2 e
      simp only [cH] at this
      omega
    · obtain rfl : k = n := by omega
      rw [if_pos (by simpa using e)]
      omega
theorem cH_le (f : Nat → Nat) (i n : Nat) : cH f i n ≤ n := ct_le _ n
theorem sH_bd (f : Nat → Nat) (i n : Nat) (h : n ≤ 20) : sH f i n ≤ 380 := by
  have h1 := sH_le f i 19 n (by omega)
  have h2 := cH_le f i n
  have h3 : 19 * cH f i n ≤ 19 * 20 := Nat.mul_le_mul_left 19 (by omega)
  omega
theorem nrN_le {c s m : Nat} (hc : 0 < c) (h : s ≤ m * c) : nrN c s ≤ m := by
  unfold nrN
  apply Nat.le_of_lt_succ
  rw [Nat.div_lt_iff_lt_mul (by omega)]
  have : m.succ * (2 * c) = 2 * (m * c) + 2 * c := by
    rw [Nat.succ_mul, Nat.mul_left_comm]
  omega
theorem gN_le {f : Nat → Nat} {i n : Nat} (h : 0 < cH f i n) : gN f i n ≤ n - 1 := nrN_le h (sH_le f i (n - 1) n (by omega))
theorem gI_eq {f : Nat → Nat} {i n : Nat} (h : 0 < cH f i n) : gI f i n = nI (gN f i n) := if_neg (by omega)
/-- of all twelve rows and columns: how many, and their sum, among the first k shades -/
def cc (S : Pic) (k j : Nat) : Nat := if j < 6 then cH (pro S) j k else cH (pco S) (j - 6) k
def ss (S : Pic) (k j : Nat) : Nat := if j < 6 then sH (pro S) j k else sH (pco S) (j - 6) k
abbrev FG (g : List Nat) : List (List Nat) := [0 :: g, 1 :: g, 2 :: g, 3 :: g]
/-- what the guesses' cells hold of a state -/
def GuA (w : Wd) (g : List Nat) (S : Pic) : Prop := (∀ i, i < 6 → w.1 (2 :: g) i = gI (pro S) i (pN S)) ∧ (∀ i, i < 6 → w.1 (2 :: g) (6 + i) = gI (pco S) i (pN S)) ∧ w.1 (3 :: g) 0 = nI (sd (pro S) (pN S)) ∧ w.1 (3 :: g) 1 = nI (sd (pco S) (pN S))
theorem cH_s (f : Nat → Nat) (i n : Nat) : cH f i (n + 1) = cH f i n + (if f n = i then 1 else 0) := by
  simp only [cH, ct]
  by_cases h : f n = i
  · rw [if_pos h, if_pos (by simpa using h)]
  · rw [if_neg h, if_neg (by simpa using h)]
theorem sH_s (f : Nat → Nat) (i n : Nat) : sH f i (n + 1) = sH f i n + (if f n = i then n else 0) := by
  simp only [sH, sm]
  by_cases h : f n = i
  · rw [if_pos h, if_pos (by simpa using h)]
  · rw [if_neg h, if_neg (by simpa using h)]
theorem cc_s {S : Pic} {k j : Nat} (hr : pro S k < 6) (hj : j < 12) : cc S (k + 1) j = cc S k j + (if j = pro S k then 1 else 0) + (if j = 6 + pco S k then 1 else 0) := by
  unfold cc
  by_cases h : j < 6
  · rw [if_pos h, if_pos h, cH_s, if_neg (show ¬ j = 6 + pco S k by omega)]
    by_cases h2 : pro S k = j
    · rw [if_pos h2, if_pos h2.symm]
    · rw [if_neg h2, if_neg (fun h3 => h2 h3.symm)]
  · rw [if_neg h, if_neg h, cH_s, if_neg (show ¬ j = pro S k by omega)]
    by_cases h2 : pco S k = j - 6
    · rw [if_pos h2, if_pos (show j = 6 + pco S k by omega)]
    · rw [if_neg h2, if_neg (show ¬ j = 6 + pco S k by omega)]
theorem ss_s {S : Pic} {k j : Nat} (hr : pro S k < 6) (hj : j < 12) : ss S (k + 1) j = ss S k j + (if j = pro S k then k else 0) + (if j = 6 + pco S k then k else 0) := by
  unfold ss
  by_cases h : j < 6
  · rw [if_pos h, if_pos h, sH_s, if_neg (show ¬ j = 6 + pco S k by omega)]
    by_cases h2 : pro S k = j
    · rw [if_pos h2, if_pos h2.symm]
      omega
    · rw [if_neg h2, if_neg (fun h3 => h2 h3.symm)]
  · rw [if_neg h, if_neg h, sH_s, if_neg (show ¬ j = pro S k by omega)]
    by_cases h2 : pco S k = j - 6
    · rw [if_pos h2, if_pos (show j = 6 + pco S k by omega)]
      omega
    · rw [if_neg h2, if_neg (show ¬ j = 6 + pco S k by omega)]
section GU
variable {X : Cx} {d : Nat} {p g : List Nat} {w : Wd}
theorem c_square {x : Int32} : Ct X 0 d MX7_square [vI x] w (qI fun y w' => y = x * x ∧ w' = w) := by
  refine Ct.of (by decide) rfl (Nat.le_of_ble_eq_true rfl) ?_
  show Wq _ _ _ _ 0 [(0, _)] [] _ _
  refine R_iload_n (i := 0) (q := 1) dX7_square_0 rfl rfl rfl ?_
  refine R_iload_n (i := 0) (q := 2) dX7_square_1 rfl rfl rfl ?_
  refine R_imul (q := 3) dX7_square_2 rfl ?_
  refine R_ri dX7_square_3 rfl ?_
  exact ⟨rfl, rfl⟩
theorem c_of {h j : Nat} (hh : h < 2) (hj : j < 6) : Ct X 0 d MX1_of [vR 1 0 g, vI (nI h), vI (nI j)] w (qI fun y w' => y = w.1 (2 :: g) (h * 6 + j) ∧ w' = w) := by
  refine Ct.of (by decide) rfl (Nat.le_of_ble_eq_true rfl) ?_
  show Wq _ _ _ _ 0 [(0, _), (1, _), (2, _)] [] _ _
  refine R_aload_n (i := 0) (q := 1) dX1_of_0 rfl rfl rfl ?_
  refine R_getR (q := 4) dX1_of_1 fl_X1_18 rfl (by decide) rfl ?_
  refine R_iload_n (i := 1) (q := 5) dX1_of_4 rfl rfl rfl ?_
  refine R_bipush (v := nI 6) (q := 7) dX1_of_5 (by decide) rfl ?_
  first | refine R_imulN (q := 8) dX1_of_7 rfl ?_ | refine R_imul (q := 8) dX1_of_7 rfl ?_
  refine R_iload_n (i := 2) (q := 9) dX1_of_8 rfl rfl rfl ?_
  first | refine R_iaddN (q := 10) dX1_of_9 rfl ?_ | refine R_iadd (q := 10) dX1_of_9 rfl ?_
  refine R_iald (q := 11) dX1_of_10 (rfl) (by omega) (by decide) rfl ?_
  refine R_ri dX1_of_11 rfl ?_
  exact ⟨rfl, rfl⟩
theorem c_side {h : Nat} (hh : h < 2) : Ct X 0 d MX1_side [vR 1 0 g, vI (nI h)] w (qI fun y w' => y = w.1 (3 :: g) h ∧ w' = w) := by
  refine Ct.of (by decide) rfl (Nat.le_of_ble_eq_true rfl) ?_
  show Wq _ _ _ _ 0 [(0, _), (1, _)] [] _ _
  refine R_aload_n (i := 0) (q := 1) dX1_side_0 rfl rfl rfl ?_
  refine R_getR (q := 4) dX1_side_1 fl_X1_21 rfl (by decide) rfl ?_
  refine R_iload_n (i := 1) (q := 5) dX1_side_4 rfl rfl rfl ?_
  refine R_iald (q := 6) dX1_side_5 (rfl) (by omega) (by decide) rfl ?_
  refine R_ri dX1_side_6 rfl ?_
  exact ⟨rfl, rfl⟩
theorem c_nearest {a b : Nat} (ha : a ≤ 20) (hb : b ≤ 380) : Ct X 0 d MX1_nearest [vI (nI a), vI (nI b)] w (qI fun y w' => y = nrI a b ∧ w' = w) := by
  refine Ct.of (by decide) rfl (Nat.le_of_ble_eq_true rfl) ?_
  show Wq _ _ _ _ 0 [(0, _), (1, _)] [] _ _
  refine R_iload_n (i := 0) (q := 1) dX1_nearest_0 rfl rfl rfl ?_
  refine R_if_neN (by omega) (tgt := 9) (q := 4) dX1_nearest_1 (by decide) rfl (fun c1 => ?_) (fun c1 => ?_)
  · refine R_iconst (v := nI 2) (q := 10) dX1_nearest_9 (by decide) rfl ?_
    refine R_iload_n (i := 1) (q := 11) dX1_nearest_10 rfl rfl rfl ?_
    first | refine R_imulN (q := 12) dX1_nearest_11 rfl ?_ | refine R_imul (q := 12) dX1_nearest_11 rfl ?_
    refine R_iload_n (i := 0) (q := 13) dX1_nearest_12 rfl rfl rfl ?_
    first | refine R_iaddN (q := 14) dX1_nearest_13 rfl ?_ | refine R_iadd (q := 14) dX1_nearest_13 rfl ?_
    refine R_iconst (v := nI 1) (q := 15) dX1_nearest_14 (by decide) rfl ?_
    refine R_isubN (by omega) (q := 16) dX1_nearest_15 rfl ?_
    refine R_iconst (v := nI 2) (q := 17) dX1_nearest_16 (by decide) rfl ?_
    refine R_iload_n (i := 0) (q := 18) dX1_nearest_17 rfl rfl rfl ?_
    first | refine R_imulN (q := 19) dX1_nearest_18 rfl ?_ | refine R_imul (q := 19) dX1_nearest_18 rfl ?_
    refine R_idivN (by omega) (by omega) (by omega) (q := 20) dX1_nearest_19 rfl ?_
    refine R_ri dX1_nearest_20 rfl ?_
    exact ⟨(if_neg c1).symm, rfl⟩
  · refine R_bipush (v := (-9)) (q := 6) dX1_nearest_4 (by decide) rfl ?_
    refine R_goto (q := 20) dX1_nearest_6 (by decide) ?_
    refine R_ri dX1_nearest_20 rfl ?_
    exact ⟨(if_pos c1).symm, rfl⟩
theorem c_count {i s : Nat} (hi : i < 12) : Ct X 0 d MX1_count [vR 1 0 g, vI (nI i), vI (nI s)] w (qV fun w' => (∀ j, w'.1 (0 :: g) j = w.1 (0 :: g) j + (if j = i then 1 else 0)) ∧ (∀ j, w'.1 (1 :: g) j = w.1 (1 :: g) j + (if j = i then nI s else 0)) ∧ Fr [0 :: g, 1 :: g] w w') := by
  refine Ct.of (by decide) rfl (Nat.le_of_ble_eq_true rfl) ?_
  show Wq _ _ _ _ 0 [(0, _), (1, _), (2, _)] [] _ _
  refine R_aload_n (i := 0) (q := 1) dX1_count_0 rfl rfl rfl ?_
  refine R_getR (q := 4) dX1_count_1 fl_X1_9 rfl (by decide) rfl ?_
  refine R_iload_n (i := 1) (q := 5) dX1_count_4 rfl rfl rfl ?_
  refine R_dup2 (q := 6) dX1_count_5 rfl rfl rfl ?_
  refine R_iald (q := 7) dX1_count_6 (rfl) (by omega) (by decide) rfl ?_
  refine R_iconst (v := nI 1) (q := 8) dX1_count_7 (by decide) rfl ?_
  first | refine R_iaddN (q := 9) dX1_count_8 rfl ?_ | refine R_iadd (q := 9) dX1_count_8 rfl ?_
  refine R_iast (q := 10) dX1_count_9 (rfl) (by omega) (by decide) rfl ?_
  refine R_aload_n (i := 0) (q := 11) dX1_count_10 rfl rfl rfl ?_
  refine R_getR (q := 14) dX1_count_11 fl_X1_15 rfl (by decide) rfl ?_
  refine R_iload_n (i := 1) (q := 15) dX1_count_14 rfl rfl rfl ?_
  refine R_dup2 (q := 16) dX1_count_15 rfl rfl rfl ?_
  refine R_iald (q := 17) dX1_count_16 (rfl) (by omega) (by decide) rfl ?_
  refine R_iload_n (i := 2) (q := 18) dX1_count_17 rfl rfl rfl ?_
  first | refine R_iaddN (q := 19) dX1_count_18 rfl ?_ | refine R_iadd (q := 19) dX1_count_18 rfl ?_
  refine R_iast (q := 20) dX1_count_19 (rfl) (by omega) (by decide) rfl ?_
  refine R_rv dX1_count_20 rfl ?_
  refine ⟨?_, ?_, (Fr.i (by simp)).tr (Fr.i (by simp))⟩
  · intro j
    by_cases h : j = i
    · subst h
      simp [uI, uA, upd]
      rfl
    · simp [uI, uA, upd, h]
  · intro j
    by_cases h : j = i
    · subst h
      simp [uI, uA, upd]
    · simp [uI, uA, upd, h]
theorem l_takeSides {S : Pic} {w0 : Wd} (hS : StA w0 p S) (hN : pN S ≤ 20) (hro : ∀ s, s < pN S → pro S s < 6 ∧ pco S s < 6) (hb1 : ∀ i, i < 6 → w0.1 (2 :: g) i = gI (pro S) i (pN S)) (hb2 : ∀ i, i < 6 → w0.1 (2 :: g) (6 + i) = gI (pco S) i (pN S)) (h0 : p ≠ 3 :: g) (h5 : 5 :: p ≠ 3 :: g) (h6 : 6 :: p ≠ 3 :: g) : ∀ (j k : Nat) (w : Wd), pN S ≤ k + j → k ≤ pN S → w.1 (3 :: g) 0 = nI (sm (fun s => sq s (gN (pro S) (pro S s) (pN S))) k) → w.1 (3 :: g) 1 = nI (sm (fun s => sq s (gN (pco S) (pco S s) (pN S))) k) → Fr [3 :: g] w0 w → Wq X 0 (d + 1) MX1_takeSides 16 [(2, vI (nI k)), (0, vR 1 0 g), (1, vR 5 0 p)] [] w (qV fun w' => w'.1 (3 :: g) 0 = nI (sd (pro S) (pN S)) ∧ w'.1 (3 :: g) 1 = nI (sd (pco S) (pN S)) ∧ Fr [3 :: g] w0 w') := by
  obtain ⟨hR, hC, hn, hsh, hlo, hr5, hc6, hdt⟩ := id hS
  intro j
  induction j with
  | zero =>
    intro k w h1 h2 hs0 hs1 hF
    have hn9 : w.1 p 2 = nI (pN S) := by rw [hF.2 p (by simpa using h0)]; exact hn
    refine R_iload_n (i := 2) (q := 17) dX1_takeSides_16 rfl rfl rfl ?_
    refine R_aload_n (i := 1) (q := 18) dX1_takeSides_17 rfl rfl rfl ?_
    refine R_getI' (q := 21) dX1_takeSides_18 fl_X1_30 rfl (hn9) rfl ?_
    refine R_icmp_geN (by omega) (by omega) (tgt := 83) (q := 24) dX1_takeSides_21 (by decide) rfl (fun c1 => ?_) (fun c1 => ?_)
    · obtain rfl : k = pN S := by omega
      refine R_rv dX1_takeSides_83 rfl ?_
      exact ⟨hs0, hs1, hF⟩
    · omega
  | succ j ih =>
    intro k w h1 h2 hs0 hs1 hF
    have hn9 : w.1 p 2 = nI (pN S) := by rw [hF.2 p (by simpa using h0)]; exact hn
    refine R_iload_n (i := 2) (q := 17) dX1_takeSides_16 rfl rfl rfl ?_
    refine R_aload_n (i := 1) (q := 18) dX1_takeSides_17 rfl rfl rfl ?_
    refine R_getI' (q := 21) dX1_takeSides_18 fl_X1_30 rfl (hn9) rfl ?_
    refine R_icmp_geN (by omega) (by omega) (tgt := 83) (q := 24) dX1_takeSides_21 (by decide) rfl (fun c1 => ?_) (fun c1 => ?_)
    · obtain rfl : k = pN S := by omega
      refine R_rv dX1_takeSides_83 rfl ?_
      exact ⟨hs0, hs1, hF⟩
    · have hb := hro k c1
      have e5 : w.1 (5 :: p) k = nI (pro S k) := by rw [hF.2 _ (by simpa using h5)]; exact hr5 k c1
      have e6 : w.1 (6 :: p) k = nI (pco S k) := by rw [hF.2 _ (by simpa using h6)]; exact hc6 k c1
      have f1 : w.1 (2 :: g) (pro S k) = nI (gN (pro S) (pro S k) (pN S)) := by
        rw [hF.2 _ (by simp), hb1 _ hb.1]
        exact gI_eq (cH_pos c1 rfl)
      have f2 : w.1 (2 :: g) (6 + pco S k) = nI (gN (pco S) (pco S k) (pN S)) := by
        rw [hF.2 _ (by simp), hb2 _ hb.2]
        exact gI_eq (cH_pos c1 rfl)
      refine R_aload_n (i := 0) (q := 25) dX1_takeSides_24 rfl rfl rfl ?_
      refine R_getR (q := 28) dX1_takeSides_25 fl_X1_21 rfl (by decide) rfl ?_
      refine R_iconst (v := nI 0) (q := 29) dX1_takeSides_28 (by decide) rfl ?_
      refine R_dup2 (q := 30) dX1_takeSides_29 rfl rfl rfl ?_
      refine R_iald' (q := 31) dX1_takeSides_30 (rfl) (by omega) (by decide) (hs0) rfl ?_
      refine R_iload_n (i := 2) (q := 32) dX1_takeSides_31 rfl rfl rfl ?_
      refine R_aload_n (i := 0) (q := 33) dX1_takeSides_32 rfl rfl rfl ?_
      refine R_getR (q := 36) dX1_takeSides_33 fl_X1_18 rfl (by decide) rfl ?_
      refine R_aload_n (i := 1) (q := 37) dX1_takeSides_36 rfl rfl rfl ?_
      refine R_getR (q := 40) dX1_takeSides_37 fl_X1_36 rfl (by decide) rfl ?_
      refine R_iload_n (i := 2) (q := 41) dX1_takeSides_40 rfl rfl rfl ?_
      refine R_iald' (q := 42) dX1_takeSides_41 (rfl) (by omega) (by decide) (e5) rfl ?_
      refine R_iald' (q := 43) dX1_takeSides_42 (rfl) (by omega) (by decide) (f1) rfl ?_
      refine R_isub (q := 44) dX1_takeSides_43 rfl ?_
      refine R_cS1i (M' := MX7_square) (q := 47) dX1_takeSides_44 ml_X1_54 mk_X7_square (Nat.le_of_ble_eq_true rfl) rfl (c_square) ?_
      rintro _ w ⟨rfl, rfl⟩
      rw [sq_nI]
      first | refine R_iaddN (q := 48) dX1_takeSides_47 rfl ?_ | refine R_iadd (q := 48) dX1_takeSides_47 rfl ?_
      refine R_iast (q := 49) dX1_takeSides_48 (rfl) (by omega) (by decide) rfl ?_
      refine R_aload_n (i := 0) (q := 50) dX1_takeSides_49 rfl rfl rfl ?_
      refine R_getR (q := 53) dX1_takeSides_50 fl_X1_21 rfl (by decide) rfl ?_
      refine R_iconst (v := nI 1) (q := 54) dX1_takeSides_53 (by decide) rfl ?_
      refine R_dup2 (q := 55) dX1_takeSides_54 rfl rfl rfl ?_
      refine R_iald' (q := 56) dX1_takeSides_55 rfl (by decide) (by decide) ((uI_ne (by decide)).trans hs1) rfl ?_
      refine R_iload_n (i := 2) (q := 57) dX1_takeSides_56 rfl rfl rfl ?_
      refine R_aload_n (i := 0) (q := 58) dX1_takeSides_57 rfl rfl rfl ?_
      refine R_getR (q := 61) dX1_takeSides_58 fl_X1_18 rfl (by decide) rfl ?_
      refine R_bipush (v := nI 6) (q := 63) dX1_takeSides_61 (by decide) rfl ?_
      refine R_aload_n (i := 1) (q := 64) dX1_takeSides_63 rfl rfl rfl ?_
      refine R_getR (q := 67) dX1_takeSides_64 fl_X1_43 rfl (by decide) rfl ?_
      refine R_iload_n (i := 2) (q := 68) dX1_takeSides_67 rfl rfl rfl ?_
      refine R_iald' (q := 69) dX1_takeSides_68 rfl (by omega) (by decide) ((uI_nep h6).trans e6) rfl ?_
      first | refine R_iaddN (q := 70) dX1_takeSides_69 rfl ?_ | refine R_iadd (q := 70) dX1_takeSides_69 rfl ?_
      refine R_iald' (q := 71) dX1_takeSides_70 rfl (by omega) (by decide) ((uI_nep (by simp)).trans f2) rfl ?_
      refine R_isub (q := 72) dX1_takeSides_71 rfl ?_
      refine R_cS1i (M' := MX7_square) (q := 75) dX1_takeSides_72 ml_X1_54 mk_X7_square (Nat.le_of_ble_eq_true rfl) rfl (c_square) ?_
      rintro _ w ⟨rfl, rfl⟩
      rw [sq_nI]
      first | refine R_iaddN (q := 76) dX1_takeSides_75 rfl ?_ | refine R_iadd (q := 76) dX1_takeSides_75 rfl ?_
      refine R_iast (q := 77) dX1_takeSides_76 (rfl) (by omega) (by decide) rfl ?_
      first | refine R_iincN (q := 80) (loc' := [(2, _), (0, _), (1, _)]) dX1_takeSides_77 (by rfl) (by decide) (by rfl) rfl ?_ | refine R_iinc (q := 80) (loc' := [(2, _), (0, _), (1, _)]) dX1_takeSides_77 (by rfl) (by rfl) (by decide) (by rfl) rfl ?_
      refine R_goto (q := 16) dX1_takeSides_80 (by decide) ?_
      refine ih (k + 1) _ (by omega) (by omega) ?_ ?_ ((hF.tr (Fr.i (by simp))).tr (Fr.i (by simp)))
      · simp only [sm]
        exact (uI_ne (by decide)).trans (uI_same _ _ _ _)
      · simp only [sm]
        exact uI_same _ _ _ _
theorem c_takeSides {S : Pic} (hS : StA w p S) (hN : pN S ≤ 20) (hro : ∀ s, s < pN S → pro S s < 6 ∧ pco S s < 6) (hb1 : ∀ i, i < 6 → w.1 (2 :: g) i = gI (pro S) i (pN S)) (hb2 : ∀ i, i < 6 → w.1 (2 :: g) (6 + i) = gI (pco S) i (pN S)) (h0 : p ≠ 3 :: g) (h5 : 5 :: p ≠ 3 :: g) (h6 : 6 :: p ≠ 3 :: g) : Ct X 0 (d + 1) MX1_takeSides [vR 1 0 g, vR 5 0 p] w (qV fun w' => w'.1 (3 :: g) 0 = nI (sd (pro S) (pN S)) ∧ w'.1 (3 :: g) 1 = nI (sd (pco S) (pN S)) ∧ Fr [3 :: g] w w') := by
  refine Ct.of (by decide) rfl (Nat.le_of_ble_eq_true rfl) ?_
  show Wq _ _ _ _ 0 [(0, _), (1, _)] [] _ _
  refine R_aload_n (i := 0) (q := 1) dX1_takeSides_0 rfl rfl rfl ?_
  refine R_getR (q := 4) dX1_takeSides_1 fl_X1_21 rfl (by decide) rfl ?_
  refine R_iconst (v := nI 0) (q := 5) dX1_takeSides_4 (by decide) rfl ?_
  refine R_iconst (v := nI 0) (q := 6) dX1_takeSides_5 (by decide) rfl ?_
  refine R_iast (q := 7) dX1_takeSides_6 (rfl) (by omega) (by decide) rfl ?_
  refine R_aload_n (i := 0) (q := 8) dX1_takeSides_7 rfl rfl rfl ?_
  refine R_getR (q := 11) dX1_takeSides_8 fl_X1_21 rfl (by decide) rfl ?_
  refine R_iconst (v := nI 1) (q := 12) dX1_takeSides_11 (by decide) rfl ?_
  refine R_iconst (v := nI 0) (q := 13) dX1_takeSides_12 (by decide) rfl ?_
  refine R_iast (q := 14) dX1_takeSides_13 (rfl) (by omega) (by decide) rfl ?_
  refine R_iconst (v := nI 0) (q := 15) dX1_takeSides_14 (by decide) rfl ?_
  refine R_istore_n (i := 2) (q := 16) (loc' := [(2, _), (0, _), (1, _)]) dX1_takeSides_15 rfl (by decide) (by rfl) rfl ?_
  refine l_takeSides hS hN hro hb1 hb2 h0 h5 h6 (pN S) 0 _ (by omega) (by omega) ?_ ?_ ((Fr.i (by simp)).tr (Fr.i (by simp)))
  · exact (uI_ne (by decide)).trans (uI_same _ _ _ _)
  · exact uI_same _ _ _ _
theorem l_take1 {S : Pic} {w0 : Wd} (hS : StA w0 p S) (hN : pN S ≤ 20) (hro : ∀ s, s < pN S → pro S s < 6 ∧ pco S s < 6) (h0 : p ∉ FG g) (h5 : 5 :: p ∉ FG g) (h6 : 6 :: p ∉ FG g) (Q : Option AV → Wd → Prop) (kk : ∀ w, (∀ j, j < 12 → w.1 (0 :: g) j = nI (cc S (pN S) j) ∧ w.1 (1 :: g) j = nI (ss S (pN S) j)) → Fr (FG g) w0 w → Wq X 0 (d + 2) MX1_take 57 [(2, vI (nI (pN S))), (0, vR 1 0 g), (1, vR 5 0 p)] [] w Q) : ∀ (j k : Nat) (w : Wd), pN S ≤ k + j → k ≤ pN S → (∀ j, j < 12 → w.1 (0 :: g) j = nI (cc S k j) ∧ w.1 (1 :: g) j = nI (ss S k j)) → Fr (FG g) w0 w → Wq X 0 (d + 2) MX1_take 18 [(2, vI (nI k)), (0, vR 1 0 g), (1, vR 5 0 p)] [] w Q := by
  obtain ⟨hR, hC, hn, hsh, hlo, hr5, hc6, hdt⟩ := id hS
  intro j
  induction j with
  | zero =>
    intro k w h1 h2 hA hF
    have hn9 : w.1 p 2 = nI (pN S) := by rw [hF.2 p h0]; exact hn
    refine R_iload_n (i := 2) (q := 19) dX1_take_18 rfl rfl rfl ?_
    refine R_aload_n (i := 1) (q := 20) dX1_take_19 rfl rfl rfl ?_
    refine R_getI' (q := 23) dX1_take_20 fl_X1_30 rfl (hn9) rfl ?_
    refine R_icmp_geN (by omega) (by omega) (tgt := 57) (q := 26) dX1_take_23 (by decide) rfl (fun c1 => ?_) (fun c1 => ?_)
    · obtain rfl : k = pN S := by omega
      exact kk w hA hF
    · omega
  | succ j ih =>
    intro k w h1 h2 hA hF
    have hn9 : w.1 p 2 = nI (pN S) := by rw [hF.2 p h0]; exact hn
    refine R_iload_n (i := 2) (q := 19) dX1_take_18 rfl rfl rfl ?_
    refine R_aload_n (i := 1) (q := 20) dX1_take_19 rfl rfl rfl ?_
    refine R_getI' (q := 23) dX1_take_20 fl_X1_30 rfl (hn9) rfl ?_
    refine R_icmp_geN (by omega) (by omega) (tgt := 57) (q := 26) dX1_take_23 (by decide) rfl (fun c1 => ?_) (fun c1 => ?_)
    · obtain rfl : k = pN S := by omega
      exact kk w hA hF
    · have hb := hro k c1
      have e5 : w.1 (5 :: p) k = nI (pro S k) := by rw [hF.2 _ h5]; exact hr5 k c1
      refine R_aload_n (i := 0) (q := 27) dX1_take_26 rfl rfl rfl ?_
      refine R_aload_n (i := 1) (q := 28) dX1_take_27 rfl rfl rfl ?_
      refine R_getR (q := 31) dX1_take_28 fl_X1_36 rfl (by decide) rfl ?_
      refine R_iload_n (i := 2) (q := 32) dX1_take_31 rfl rfl rfl ?_
      refine R_iald' (q := 33) dX1_take_32 (rfl) (by omega) (by decide) (e5) rfl ?_
      refine R_iload_n (i := 2) (q := 34) dX1_take_33 rfl rfl rfl ?_
      refine R_cV2v (M' := MX1_count) (q := 37) dX1_take_34 ml_X1_39 mk_X1_count (Nat.le_of_ble_eq_true rfl) rfl (c_count (by omega)) ?_
      rintro w1 ⟨ha1, hb1, hF1⟩
      have hF1 := hF1.up (G := FG g) (by simp)
      have hF2 := hF.tr hF1
      have e6 : w1.1 (6 :: p) k = nI (pco S k) := by rw [hF2.2 _ h6]; exact hc6 k c1
      refine R_aload_n (i := 0) (q := 38) dX1_take_37 rfl rfl rfl ?_
      refine R_bipush (v := nI 6) (q := 40) dX1_take_38 (by decide) rfl ?_
      refine R_aload_n (i := 1) (q := 41) dX1_take_40 rfl rfl rfl ?_
      refine R_getR (q := 44) dX1_take_41 fl_X1_43 rfl (by decide) rfl ?_
      refine R_iload_n (i := 2) (q := 45) dX1_take_44 rfl rfl rfl ?_
      refine R_iald' (q := 46) dX1_take_45 (rfl) (by omega) (by decide) (e6) rfl ?_
      first | refine R_iaddN (q := 47) dX1_take_46 rfl ?_ | refine R_iadd (q := 47) dX1_take_46 rfl ?_
      refine R_iload_n (i := 2) (q := 48) dX1_take_47 rfl rfl rfl ?_
      refine R_cV2v (M' := MX1_count) (q := 51) dX1_take_48 ml_X1_39 mk_X1_count (Nat.le_of_ble_eq_true rfl) rfl (c_count (by omega)) ?_
      rintro w2 ⟨ha2, hb2, hF3⟩
      have hF3 := hF3.up (G := FG g) (by simp)
      first | refine R_iincN (q := 54) (loc' := [(2, _), (0, _), (1, _)]) dX1_take_51 (by rfl) (by decide) (by rfl) rfl ?_ | refine R_iinc (q := 54) (loc' := [(2, _), (0, _), (1, _)]) dX1_take_51 (by rfl) (by rfl) (by decide) (by rfl) rfl ?_
      refine R_goto (q := 18) dX1_take_54 (by decide) ?_
      refine ih (k + 1) w2 (by omega) (by omega) ?_ (hF2.tr hF3)
      intro j hj
      refine ⟨?_, ?_⟩
      · rw [ha2 j, ha1 j, (hA j hj).1, cc_s hb.1 hj, ← nI_add, ← nI_add]
        congr 1
        · congr 1
          split <;> rfl
        · split <;> rfl
      · rw [hb2 j, hb1 j, (hA j hj).2, ss_s hb.1 hj, ← nI_add, ← nI_add]
        congr 1
        · congr 1
          split <;> rfl
        · split <;> rfl
theorem l_take2 {S : Pic} {w0 : Wd} (hN : pN S ≤ 20) (Q : Option AV → Wd → Prop) (kk : ∀ w, (∀ j, j < 12 → w.1 (2 :: g) j = nrI (cc S (pN S) j) (ss S (pN S) j)) → Fr (FG g) w0 w → Wq X 0 (d + 2) MX1_take 92 [(2, vI (nI 12)), (0, vR 1 0 g), (1, vR 5 0 p)] [] w Q) : ∀ (j k : Nat) (w : Wd), 12 ≤ k + j → k ≤ 12 → (∀ j, j < 12 → w.1 (0 :: g) j = nI (cc S (pN S) j) ∧ w.1 (1 :: g) j = nI (ss S (pN S) j)) → (∀ j, j < k → w.1 (2 :: g) j = nrI (cc S (pN S) j) (ss S (pN S) j)) → Fr (FG g) w0 w → Wq X 0 (d + 2) MX1_take 59 [(2, vI (nI k)), (0, vR 1 0 g), (1, vR 5 0 p)] [] w Q := by
  intro j
  induction j with
  | zero =>
    intro k w h1 h2 hA hB hF
    refine R_iload_n (i := 2) (q := 60) dX1_take_59 rfl rfl rfl ?_
    refine R_bipush (v := nI 12) (q := 62) dX1_take_60 (by decide) rfl ?_
    refine R_icmp_geN (by omega) (by omega) (tgt := 92) (q := 65) dX1_take_62 (by decide) rfl (fun c1 => ?_) (fun c1 => ?_)
    · obtain rfl : k = 12 := by omega
      exact kk w hB hF
    · omega
  | succ j ih =>
    intro k w h1 h2 hA hB hF
    refine R_iload_n (i := 2) (q := 60) dX1_take_59 rfl rfl rfl ?_
    refine R_bipush (v := nI 12) (q := 62) dX1_take_60 (by decide) rfl ?_
    refine R_icmp_geN (by omega) (by omega) (tgt := 92) (q := 65) dX1_take_62 (by decide) rfl (fun c1 => ?_) (fun c1 => ?_)
    · obtain rfl : k = 12 := by omega
      exact kk w hB hF
    · have hcc : cc S (pN S) k ≤ 20 := by
        unfold cc
        split
        · have := cH_le (pro S) k (pN S); omega
        · have := cH_le (pco S) (k - 6) (pN S); omega
      have hss : ss S (pN S) k ≤ 380 := by
        unfold ss
        split
        · exact sH_bd _ _ _ hN
        · exact sH_bd _ _ _ hN
      refine R_aload_n (i := 0) (q := 66) dX1_take_65 rfl rfl rfl ?_
      refine R_getR (q := 69) dX1_take_66 fl_X1_18 rfl (by decide) rfl ?_
      refine R_iload_n (i := 2) (q := 70) dX1_take_69 rfl rfl rfl ?_
      refine R_aload_n (i := 0) (q := 71) dX1_take_70 rfl rfl rfl ?_
      refine R_getR (q := 74) dX1_take_71 fl_X1_9 rfl (by decide) rfl ?_
      refine R_iload_n (i := 2) (q := 75) dX1_take_74 rfl rfl rfl ?_
      refine R_iald' (q := 76) dX1_take_75 (rfl) (by omega) (by decide) ((hA k c1).1) rfl ?_
      refine R_aload_n (i := 0) (q := 77) dX1_take_76 rfl rfl rfl ?_
      refine R_getR (q := 80) dX1_take_77 fl_X1_15 rfl (by decide) rfl ?_
      refine R_iload_n (i := 2) (q := 81) dX1_take_80 rfl rfl rfl ?_
      refine R_iald' (q := 82) dX1_take_81 (rfl) (by omega) (by decide) ((hA k c1).2) rfl ?_
      refine R_cS2i (M' := MX1_nearest) (q := 85) dX1_take_82 ml_X1_46 mk_X1_nearest (Nat.le_of_ble_eq_true rfl) rfl (c_nearest hcc hss) ?_
      rintro _ w ⟨rfl, rfl⟩
      refine R_iast (q := 86) dX1_take_85 (rfl) (by omega) (by decide) rfl ?_
      first | refine R_iincN (q := 89) (loc' := [(2, _), (0, _), (1, _)]) dX1_take_86 (by rfl) (by decide) (by rfl) rfl ?_ | refine R_iinc (q := 89) (loc' := [(2, _), (0, _), (1, _)]) dX1_take_86 (by rfl) (by rfl) (by decide) (by rfl) rfl ?_
      refine R_goto (q := 59) dX1_take_89 (by decide) ?_
      refine ih (k + 1) _ (by omega) (by omega) ?_ ?_ (hF.tr (Fr.i (by simp)))
      · intro j hj
        exact ⟨(uI_nep (by simp)).trans (hA j hj).1, (uI_nep (by simp)).trans (hA j hj).2⟩
      · intro j hj
        by_cases h : j = k
        · subst h
          exact uI_same _ _ _ _
        · exact (uI_ne h).trans (hB j (by omega))
theorem c_take {S : Pic} (hS : StA w p S) (hN : pN S ≤ 20) (hro : ∀ s, s < pN S → pro S s < 6 ∧ pco S s < 6) (h0 : p ∉ FG g) (h5 : 5 :: p ∉ FG g) (h6 : 6 :: p ∉ FG g) (h7 : 7 :: p ∉ FG g) : Ct X 0 (d + 2) MX1_take [vR 1 0 g, vR 5 0 p] w (qV fun w' => GuA w' g S ∧ Fr (FG g) w w') := by
  refine Ct.of (by decide) rfl (Nat.le_of_ble_eq_true rfl) ?_
  show Wq _ _ _ _ 0 [(0, _), (1, _)] [] _ _
  refine R_aload_n (i := 0) (q := 1) dX1_take_0 rfl rfl rfl ?_
  refine R_getR (q := 4) dX1_take_1 fl_X1_9 rfl (by decide) rfl ?_
  refine R_iconst (v := nI 0) (q := 5) dX1_take_4 (by decide) rfl ?_
  refine R_cS2v (M' := MJ7_fill_53178) (q := 8) dX1_take_5 ml_X1_24 mk_J7_fill_53178 (Nat.le_of_ble_eq_true rfl) rfl (c_fill (by decide)) ?_
  rintro _ rfl
  refine R_aload_n (i := 0) (q := 9) dX1_take_8 rfl rfl rfl ?_
  refine R_getR (q := 12) dX1_take_9 fl_X1_15 rfl (by decide) rfl ?_
  refine R_iconst (v := nI 0) (q := 13) dX1_take_12 (by decide) rfl ?_
  refine R_cS2v (M' := MJ7_fill_53178) (q := 16) dX1_take_13 ml_X1_24 mk_J7_fill_53178 (Nat.le_of_ble_eq_true rfl) rfl (c_fill (by decide)) ?_
  rintro _ rfl
  refine R_iconst (v := nI 0) (q := 17) dX1_take_16 (by decide) rfl ?_
  refine R_istore_n (i := 2) (q := 18) (loc' := [(2, _), (0, _), (1, _)]) dX1_take_17 rfl (by decide) (by rfl) rfl ?_
  refine l_take1 hS hN hro h0 h5 h6 _ ?_ (pN S) 0 _ (by omega) (by omega) ?_ ((Fr.a (by simp)).tr (Fr.a (by simp)))
  · intro w1 hA1 hF1
    refine R_iconst (v := nI 0) (q := 58) dX1_take_57 (by decide) rfl ?_
    refine R_istore_n (i := 2) (q := 59) (loc' := [(2, _), (0, _), (1, _)]) dX1_take_58 rfl (by decide) (by rfl) rfl ?_
    refine l_take2 (p := p) hN _ ?_ 12 0 w1 (by omega) (by omega) hA1 (fun j hj => absurd hj (Nat.not_lt_zero j)) hF1
    intro w2 hB2 hF2
    have hg1 : ∀ i, i < 6 → w2.1 (2 :: g) i = gI (pro S) i (pN S) := by
      intro i hi
      rw [hB2 i (by omega)]
      unfold cc ss gI
      rw [if_pos hi, if_pos hi]
    have hg2 : ∀ i, i < 6 → w2.1 (2 :: g) (6 + i) = gI (pco S) i (pN S) := by
      intro i hi
      rw [hB2 (6 + i) (by omega)]
      unfold cc ss gI
      rw [if_neg (by omega), if_neg (by omega), Nat.add_sub_cancel_left]
    refine R_aload_n (i := 0) (q := 93) dX1_take_92 rfl rfl rfl ?_
    refine R_aload_n (i := 1) (q := 94) dX1_take_93 rfl rfl rfl ?_
    refine R_cV1v (M' := MX1_takeSides) (q := 97) dX1_take_94 ml_X1_50 mk_X1_takeSides (Nat.le_of_ble_eq_true rfl) rfl (c_takeSides (hS.fr hF2 h0 h5 h6 h7) hN hro hg1 hg2 (fun h => h0 (by simp [h])) (fun h => h5 (by simp [h])) (fun h => h6 (by simp [h]))) ?_
    rintro w3 ⟨hs0, hs1, hF3⟩
    refine R_rv dX1_take_97 rfl ?_
    refine ⟨⟨?_, ?_, hs0, hs1⟩, hF2.tr (hF3.up (by simp))⟩
    · intro i hi
      rw [hF3.2 _ (by simp)]
      exact hg1 i hi
    · intro i hi
      rw [hF3.2 _ (by simp)]
      exact hg2 i hi
  · intro j hj
    refine ⟨?_, ?_⟩
    · have e : cc S 0 j = 0 := by
        unfold cc
        split <;> rfl
      rw [e, uA_ne (by simp), uA_same, if_pos hj]
    · have e : ss S 0 j = 0 := by
        unfold ss
        split <;> rfl
      rw [e, uA_same, if_pos hj]
end GU
end
section
/-! what comes out -/
def bitN (m k : Nat) : Nat := m / 2 ^ k % 2
theorem shr_fin : ∀ m, m < 16 → ∀ k, k < 4 → (nI m >>> (nI k &&& 31)) &&& nI 1 = nI (bitN m k) := by decide
theorem bitN_lt (m k : Nat) : bitN m k < 2 := Nat.mod_lt _ (by decide)
/-- of a dot: what comes of its line's halves (a: the rows came, b: the columns) -/
def vl (S : Pic) (a b : Prop) [Decidable a] [Decidable b] (k : Nat) : Nat := if ¬ pdt S k < pN S then 0 else if a ∧ b then pdt S k else if a then gN (pro S) (pro S (pdt S k)) (pN S) else gN (pco S) (pco S (pdt S k)) (pN S)
abbrev rC (lo l : Nat) : Prop := bitN lo l = 0
abbrev cC (sh lo l : Nat) : Prop := bitN lo ((l + 4 - sh) % 4) = 0
def blk (sh lo l : Nat) : Bool := !(decide (rC lo l)) && !(decide (cC sh lo l))
/-- of a dot, if its line isn't blank -/
def vk (S : Pic) (sh lo k : Nat) : Nat := vl S (rC lo (k / 4)) (cC sh lo (k / 4)) k
/-- up: 0, if there is none, else the line and 1 -/
def uv (b : Nat → Bool) : Nat → Nat
  | 0 => 0
  | u + 1 => if b u then uv b u else u + 1
/-- down: 4, if there is none -/
def dv (b : Nat → Bool) : Nat → Nat → Nat
  | 0, k => k
  | f + 1, k => if k < 4 ∧ b k = true then dv b f (k + 1) else k
/-- between two lines -/
def bw (D : Nat → Nat) (u dn j : Nat) : Nat := if u = 0 then (if 4 ≤ dn then 0 else D (dn * 4 + j)) else if 4 ≤ dn then D ((u - 1) * 4 + j) else (D ((u - 1) * 4 + j) + D (dn * 4 + j)) / 2
def outN (S : Pic) (sh lo k : Nat) : Nat := if blk sh lo (k / 4) = true then bw (vk S sh lo) (uv (blk sh lo) (k / 4)) (dv (blk sh lo) 4 (k / 4 + 1)) (k % 4) else vk S sh lo k
def bmN (b : Nat → Bool) : Nat → Nat
  | 0 => 0
  | l + 1 => bmN b l + (if b l then 2 ^ l else 0)
def msN (S : Pic) (sh lo : Nat) : Nat := sm (fun k => sq (outN S sh lo k) (pdt S k)) 16
theorem bmN_lt (b : Nat → Bool) : ∀ l, bmN b l < 2 ^ l
  | 0 => Nat.le_of_ble_eq_true rfl
  | l + 1 => by
    have h := bmN_lt b l
    simp only [bmN, Nat.pow_succ]
    split <;> omega
theorem or_fin : ∀ l, l < 4 → ∀ m, m < 16 → m < 2 ^ l → (nI m ||| (nI 1 <<< (nI l &&& 31))) = nI (m + 2 ^ l) := by decide
theorem bit_bm (b : Nat → Bool) : ∀ l, l < 4 → bitN (bmN b 4) l = if b l then 1 else 0 := by
  intro l hl
  have h : ∀ b0 b1 b2 b3 : Bool, ∀ l, l < 4 → bitN (0 + (if b0 then 2 ^ 0 else 0) + (if b1 then 2 ^ 1 else 0) + (if b2 then 2 ^ 2 else 0) + (if b3 then 2 ^ 3 else 0)) l = if (if l = 0 then b0 else if l = 1 then b1 else if l = 2 then b2 else b3) then 1 else 0 := by decide
  have h2 := h (b 0) (b 1) (b 2) (b 3) l hl
  simp only [bmN]
  rw [h2]
  congr 1
  rcases (show l = 0 ∨ l = 1 ∨ l = 2 ∨ l = 3 by omega) with rfl | rfl | rfl | rfl <;> rfl
theorem vl_le {S : Pic} {a b : Prop} [Decidable a] [Decidable b] {k : Nat} : vl S a b k ≤ pN S := by
  unfold vl
  split
  · exact Nat.zero_le _
  · rename_i h
    have h : pdt S k < pN S := Classical.byContradiction h
    split
    · omega
    · split
      · have := gN_le (cH_pos (f := pro S) h rfl)
        omega
      · have := gN_le (cH_pos (f := pco S) h rfl)
        omega
theorem bw_le {D : Nat → Nat} {m u dn j : Nat} (h : ∀ k, D k ≤ m) : bw D u dn j ≤ m := by
  unfold bw
  have h1 := h ((u - 1) * 4 + j)
  have h2 := h (dn * 4 + j)
  split
  · split
    · exact Nat.zero_le _
    · exact h2
  · split
    · exact h1
    · omega
theorem outN_le {S : Pic} {sh lo k : Nat} : outN S sh lo k ≤ pN S := by
  unfold outN
  split
  · exact bw_le (fun k => vl_le)
  · exact vl_le
theorem uv_le (b : Nat → Bool) : ∀ l, uv b l ≤ l
  | 0 => Nat.le_refl _
  | l + 1 => by
    have := uv_le b l
    simp only [uv]
    split <;> omega
theorem uv_nb (b : Nat → Bool) : ∀ l, uv b l = 0 ∨ (0 < uv b l ∧ b (uv b l - 1) = false)
  | 0 => Or.inl rfl
  | l + 1 => by
    simp only [uv]
    split
    · exact uv_nb b l
    · rename_i h
      exact Or.inr ⟨by omega, by simpa using h⟩
theorem dv_nb (b : Nat → Bool) : ∀ (f k : Nat), 4 ≤ k + f → k ≤ 4 → 4 = dv b f k ∨ (k ≤ dv b f k ∧ dv b f k < 4 ∧ b (dv b f k) = false)
  | 0, k, h1, h2 => Or.inl (by show 4 = k; omega)
  | f + 1, k, h1, h2 => by
    simp only [dv]
    split
    · rename_i h
      rcases dv_nb b f (k + 1) (by omega) (by omega) with h3 | ⟨h3, h4, h5⟩
      · exact Or.inl h3
      · exact Or.inr ⟨by omega, h4, h5⟩
    · rename_i h
      rcases Nat.lt_or_ge k 4 with h3 | h3
      · exact Or.inr ⟨Nat.le_refl _, h3, by
          cases hb : b k
          · rfl
          · exact absurd ⟨h3, hb⟩ h⟩
      · exact Or.inl (by omega)
section OU
variable {X : Cx} {d : Nat} {p : List Nat} {w : Wd}
theorem c_came {lo k : Nat} (hl : lo < 16) (hk : k < 4) : Ct X 0 d MX2_came [vI (nI lo), vI (nI k)] w (qI fun z w' => z = bI (rC lo k) ∧ w' = w) := by
  refine Ct.of (by decide) rfl (Nat.le_of_ble_eq_true rfl) ?_
  show Wq _ _ _ _ 0 [(0, _), (1, _)] [] _ _
  refine R_iload_n (i := 0) (q := 1) dX2_came_0 rfl rfl rfl ?_
  refine R_iload_n (i := 1) (q := 2) dX2_came_1 rfl rfl rfl ?_
  refine R_ishr (q := 3) dX2_came_2 rfl ?_
  refine R_iconst (v := nI 1) (q := 4) dX2_came_3 (by decide) rfl ?_
  refine R_iand (q := 5) dX2_came_4 rfl ?_
  rw [shr_fin lo hl k hk]
  have := bitN_lt lo k
  refine R_if_neN (by omega) (tgt := 12) (q := 8) dX2_came_5 (by decide) rfl (fun c1 => ?_) (fun c1 => ?_)
  · refine R_iconst (v := nI 0) (q := 13) dX2_came_12 (by decide) rfl ?_
    refine R_rz dX2_came_13 rfl (by decide) ?_
    exact ⟨(bI_f c1).symm, rfl⟩
  · refine R_iconst (v := nI 1) (q := 9) dX2_came_8 (by decide) rfl ?_
    refine R_goto (q := 13) dX2_came_9 (by decide) ?_
    refine R_rz dX2_came_13 rfl (by decide) ?_
    exact ⟨(bI_t c1).symm, rfl⟩
theorem c_isBlank {m k : Nat} (hm : w.1 [7] 2 = nI m) (hl : m < 16) (hk : k < 4) : Ct X 0 d MX2_isBlank [vR 2 0 [7], vI (nI k)] w (qI fun z w' => z = bI (bitN m k = 1) ∧ w' = w) := by
  refine Ct.of (by decide) rfl (Nat.le_of_ble_eq_true rfl) ?_
  show Wq _ _ _ _ 0 [(0, _), (1, _)] [] _ _
  refine R_aload_n (i := 0) (q := 1) dX2_isBlank_0 rfl rfl rfl ?_
  refine R_getI' (q := 4) dX2_isBlank_1 fl_X2_37 rfl (hm) rfl ?_
  refine R_iload_n (i := 1) (q := 5) dX2_isBlank_4 rfl rfl rfl ?_
  refine R_ishr (q := 6) dX2_isBlank_5 rfl ?_
  refine R_iconst (v := nI 1) (q := 7) dX2_isBlank_6 (by decide) rfl ?_
  refine R_iand (q := 8) dX2_isBlank_7 rfl ?_
  rw [shr_fin m hl k hk]
  have := bitN_lt m k
  refine R_iconst (v := nI 1) (q := 9) dX2_isBlank_8 (by decide) rfl ?_
  refine R_icmp_neN (by omega) (by omega) (tgt := 16) (q := 12) dX2_isBlank_9 (by decide) rfl (fun c1 => ?_) (fun c1 => ?_)
  · refine R_iconst (v := nI 0) (q := 17) dX2_isBlank_16 (by decide) rfl ?_
    refine R_rz dX2_isBlank_17 rfl (by decide) ?_
    exact ⟨(bI_f c1).symm, rfl⟩
  · refine R_iconst (v := nI 1) (q := 13) dX2_isBlank_12 (by decide) rfl ?_
    refine R_goto (q := 17) dX2_isBlank_13 (by decide) ?_
    refine R_rz dX2_isBlank_17 rfl (by decide) ?_
    exact ⟨(bI_t c1).symm, rfl⟩
theorem l_ofill {S : Pic} {l : Nat} {a b : Prop} [Decidable a] [Decidable b] (hS : StA w p S) (hN : pN S ≤ 20) (hro : ∀ s, s < pN S → pro S s < 6 ∧ pco S s < 6) (hG : GuA w [0, 7] S) (hdt0 : ∀ k, k < 16 → pdt S k < 20) (hl : l < 4) (hp : p = [1] ∨ p = [2]) (hab : a ∨ b) : ∀ (j i : Nat), 4 * l + 4 ≤ i + j → i ≤ 4 * l + 4 → 4 * l ≤ i → Wq X 0 (d + 1) MX2_fill 5 [(5, vI (nI i)), (0, vR 2 0 [7]), (1, vR 5 0 p), (2, vI (nI l)), (3, vI (bI a)), (4, vI (bI b))] [] (uA w [1, 7] (fun k => if 4 * l ≤ k ∧ k < i then nI (vl S a b k) else w.1 [1, 7] k)) (qV fun w' => w' = uA w [1, 7] (fun k => if 4 * l ≤ k ∧ k < 4 * l + 4 then nI (vl S a b k) else w.1 [1, 7] k)) := by
  obtain ⟨hR, hC, hn, hsh, hlo, hr5, hc6, hdt⟩ := id hS
  have hne : ∀ f : Nat → Int32, ∀ q : List Nat, q ≠ [1, 7] → (uA w [1, 7] f).1 q = w.1 q := fun f q h => uA_ne h
  have hp0 : p ≠ [1, 7] := by rcases hp with rfl | rfl <;> decide
  have hp5 : 5 :: p ≠ [1, 7] := by rcases hp with rfl | rfl <;> decide
  have hp6 : 6 :: p ≠ [1, 7] := by rcases hp with rfl | rfl <;> decide
  have hp7 : 7 :: p ≠ [1, 7] := by rcases hp with rfl | rfl <;> decide
  have upd_eq : ∀ (i : Nat), 4 * l ≤ i → uI (uA w [1, 7] (fun k => if 4 * l ≤ k ∧ k < i then nI (vl S a b k) else w.1 [1, 7] k)) [1, 7] i (nI (vl S a b i)) = uA w [1, 7] (fun k => if 4 * l ≤ k ∧ k < i + 1 then nI (vl S a b k) else w.1 [1, 7] k) := by
    intro i hi
    unfold uI uA
    dsimp only
    congr 1
    funext q
    by_cases hq : q = [1, 7]
    · simp only [if_pos hq, if_true]
      funext j
      simp only [upd]
      by_cases hj : j = i
      · rw [if_pos hj, if_pos (by omega), hj]
      · rw [if_neg hj]
        by_cases h3 : 4 * l ≤ j ∧ j < i
        · rw [if_pos h3, if_pos (by omega)]
        · rw [if_neg h3, if_neg (by omega)]
    · simp only [if_neg hq]
  intro j
  induction j with
  | zero =>
    intro i h1 h2 h3
    refine R_iload (q := 7) dX2_fill_5 rfl rfl ?_
    refine R_iload_n (i := 2) (q := 8) dX2_fill_7 rfl rfl rfl ?_
    refine R_iconst (v := nI 1) (q := 9) dX2_fill_8 (by decide) rfl ?_
    first | refine R_iaddN (q := 10) dX2_fill_9 rfl ?_ | refine R_iadd (q := 10) dX2_fill_9 rfl ?_
    refine R_iconst (v := nI 4) (q := 11) dX2_fill_10 (by decide) rfl ?_
    first | refine R_imulN (q := 12) dX2_fill_11 rfl ?_ | refine R_imul (q := 12) dX2_fill_11 rfl ?_
    refine R_icmp_geN (by omega) (by omega) (tgt := 122) (q := 15) dX2_fill_12 (by decide) rfl (fun c1 => ?_) (fun c1 => ?_)
    · refine R_rv dX2_fill_122 rfl ?_
      have : i = 4 * l + 4 := by omega
      rw [this]
    · omega
  | succ j ih =>
    intro i h1 h2 h3
    refine R_iload (q := 7) dX2_fill_5 rfl rfl ?_
    refine R_iload_n (i := 2) (q := 8) dX2_fill_7 rfl rfl rfl ?_
    refine R_iconst (v := nI 1) (q := 9) dX2_fill_8 (by decide) rfl ?_
    first | refine R_iaddN (q := 10) dX2_fill_9 rfl ?_ | refine R_iadd (q := 10) dX2_fill_9 rfl ?_
    refine R_iconst (v := nI 4) (q := 11) dX2_fill_10 (by decide) rfl ?_
    first | refine R_imulN (q := 12) dX2_fill_11 rfl ?_ | refine R_imul (q := 12) dX2_fill_11 rfl ?_
    refine R_icmp_geN (by omega) (by omega) (tgt := 122) (q := 15) dX2_fill_12 (by decide) rfl (fun c1 => ?_) (fun c1 => ?_)
    · refine R_rv dX2_fill_122 rfl ?_
      have : i = 4 * l + 4 := by omega
      rw [this]
    · have hi16 : i < 16 := by omega
      have e7 := hdt i hi16
      have ed := hdt0 i hi16
      refine R_aload_n (i := 1) (q := 16) dX2_fill_15 rfl rfl rfl ?_
      refine R_getR (q := 19) dX2_fill_16 fl_X2_26 rfl (by decide) rfl ?_
      refine R_iload (q := 21) dX2_fill_19 rfl rfl ?_
      refine R_iald' (q := 22) dX2_fill_21 (rfl) (by omega) (by decide) ((congrFun (hne _ _ hp7) i).trans e7) rfl ?_
      refine R_istore (q := 24) (loc' := [(6, _), (5, _), (0, _), (1, _), (2, _), (3, _), (4, _)]) dX2_fill_22 (by decide) (by rfl) rfl ?_
      refine R_aload_n (i := 1) (q := 25) dX2_fill_24 rfl rfl rfl ?_
      refine R_iload (q := 27) dX2_fill_25 rfl rfl ?_
      refine R_cV1i (M' := MX5_hasShade) (q := 30) dX2_fill_27 ml_X2_57 mk_X5_hasShade (Nat.le_of_ble_eq_true rfl) rfl (c_hasShade (n := pN S) ((congrFun (hne _ _ hp0) 2).trans hn)) ?_
      rintro _ w9 ⟨rfl, rfl⟩
      refine R_if_neB (tgt := 44) (q := 33) dX2_fill_30 (by decide) rfl (fun c2 => ?_) (fun c2 => ?_)
      · have hs : pdt S i < pN S := (inN_nI (by omega) (by omega)).mp c2
        have hb := hro _ hs
        have hv : vl S a b i = if a ∧ b then pdt S i else if a then gN (pro S) (pro S (pdt S i)) (pN S) else gN (pco S) (pco S (pdt S i)) (pN S) := by
          unfold vl
          rw [if_neg (fun h => h hs)]
        refine R_iload_n (i := 3) (q := 45) dX2_fill_44 rfl rfl rfl ?_
        refine R_if_eqB (tgt := 65) (q := 48) dX2_fill_45 (by decide) rfl (fun c3 => ?_) (fun c3 => ?_)
        · have hbb : b := hab.resolve_left c3
          refine R_iload_n (i := 3) (q := 66) dX2_fill_65 rfl rfl rfl ?_
          refine R_if_eqB (tgt := 94) (q := 69) dX2_fill_66 (by decide) rfl (fun c5 => ?_) (fun c5 => ?_)
          · refine R_aload_n (i := 0) (q := 95) dX2_fill_94 rfl rfl rfl ?_
            refine R_getR (q := 98) dX2_fill_95 fl_X2_18 rfl (by decide) rfl ?_
            refine R_iload (q := 100) dX2_fill_98 rfl rfl ?_
            refine R_aload_n (i := 0) (q := 101) dX2_fill_100 rfl rfl rfl ?_
            refine R_getR (q := 104) dX2_fill_101 fl_X2_12 rfl (by decide) rfl ?_
            refine R_iconst (v := nI 1) (q := 105) dX2_fill_104 (by decide) rfl ?_
            refine R_aload_n (i := 1) (q := 106) dX2_fill_105 rfl rfl rfl ?_
            refine R_getR (q := 109) dX2_fill_106 fl_X2_67 rfl (by decide) rfl ?_
            refine R_iload (q := 111) dX2_fill_109 rfl rfl ?_
            refine R_iald' (q := 112) dX2_fill_111 (rfl) (by omega) (by decide) ((congrFun (hne _ _ hp6) _).trans (hc6 _ hs)) rfl ?_
            refine R_cV2i (M' := MX1_of) (q := 115) dX2_fill_112 ml_X2_63 mk_X1_of (Nat.le_of_ble_eq_true rfl) rfl (c_of (h := 1) (by decide) hb.2) ?_
            rintro _ w8 ⟨rfl, rfl⟩
            have e9 : (uA w [1, 7] (fun k => if 4 * l ≤ k ∧ k < i then nI (vl S a b k) else w.1 [1, 7] k)).1 [2, 0, 7] (1 * 6 + pco S (pdt S i)) = nI (vl S a b i) := by
              rw [uA_ne (by decide), hv, if_neg (fun h => c3 h.1), if_neg c3]
              exact (hG.2.1 _ hb.2).trans (gI_eq (cH_pos hs rfl))
            rw [e9]
            refine R_iast (q := 116) dX2_fill_115 (rfl) (by omega) (by decide) rfl ?_
            first | refine R_iincN (q := 119) (loc' := [(5, _), (6, _), (0, _), (1, _), (2, _), (3, _), (4, _)]) dX2_fill_116 (by rfl) (by decide) (by rfl) rfl ?_ | refine R_iinc (q := 119) (loc' := [(5, _), (6, _), (0, _), (1, _), (2, _), (3, _), (4, _)]) dX2_fill_116 (by rfl) (by rfl) (by decide) (by rfl) rfl ?_
            refine R_goto (q := 5) dX2_fill_119 (by decide) ?_
            rw [upd_eq i h3]
            refine R_loc [0, 2, 3, 4, 5, 6] (loc' := [(5, _), (0, _), (1, _), (2, _), (3, _), (4, _)]) (by rfl) ?_
            exact ih (i + 1) (by omega) (by omega) (by omega)
          · exact absurd c5 c3
        · refine R_iload (q := 50) dX2_fill_48 rfl rfl ?_
          refine R_if_eqB (tgt := 65) (q := 53) dX2_fill_50 (by decide) rfl (fun c4 => ?_) (fun c4 => ?_)
          · refine R_iload_n (i := 3) (q := 66) dX2_fill_65 rfl rfl rfl ?_
            refine R_if_eqB (tgt := 94) (q := 69) dX2_fill_66 (by decide) rfl (fun c5 => ?_) (fun c5 => ?_)
            · exact absurd c3 c5
            · refine R_aload_n (i := 0) (q := 70) dX2_fill_69 rfl rfl rfl ?_
              refine R_getR (q := 73) dX2_fill_70 fl_X2_18 rfl (by decide) rfl ?_
              refine R_iload (q := 75) dX2_fill_73 rfl rfl ?_
              refine R_aload_n (i := 0) (q := 76) dX2_fill_75 rfl rfl rfl ?_
              refine R_getR (q := 79) dX2_fill_76 fl_X2_12 rfl (by decide) rfl ?_
              refine R_iconst (v := nI 0) (q := 80) dX2_fill_79 (by decide) rfl ?_
              refine R_aload_n (i := 1) (q := 81) dX2_fill_80 rfl rfl rfl ?_
              refine R_getR (q := 84) dX2_fill_81 fl_X2_60 rfl (by decide) rfl ?_
              refine R_iload (q := 86) dX2_fill_84 rfl rfl ?_
              refine R_iald' (q := 87) dX2_fill_86 (rfl) (by omega) (by decide) ((congrFun (hne _ _ hp5) _).trans (hr5 _ hs)) rfl ?_
              refine R_cV2i (M' := MX1_of) (q := 90) dX2_fill_87 ml_X2_63 mk_X1_of (Nat.le_of_ble_eq_true rfl) rfl (c_of (h := 0) (by decide) hb.1) ?_
              rintro _ w8 ⟨rfl, rfl⟩
              have e9 : (uA w [1, 7] (fun k => if 4 * l ≤ k ∧ k < i then nI (vl S a b k) else w.1 [1, 7] k)).1 [2, 0, 7] (0 * 6 + pro S (pdt S i)) = nI (vl S a b i) := by
                rw [uA_ne (by decide), hv, if_neg (fun h => c4 h.2), if_pos c3, Nat.zero_mul, Nat.zero_add]
                exact (hG.1 _ hb.1).trans (gI_eq (cH_pos hs rfl))
              rw [e9]
              refine R_iast (q := 91) dX2_fill_90 (rfl) (by omega) (by decide) rfl ?_
              refine R_goto (q := 116) dX2_fill_91 (by decide) ?_
              first | refine R_iincN (q := 119) (loc' := [(5, _), (6, _), (0, _), (1, _), (2, _), (3, _), (4, _)]) dX2_fill_116 (by rfl) (by decide) (by rfl) rfl ?_ | refine R_iinc (q := 119) (loc' := [(5, _), (6, _), (0, _), (1, _), (2, _), (3, _), (4, _)]) dX2_fill_116 (by rfl) (by rfl) (by decide) (by rfl) rfl ?_
              refine R_goto (q := 5) dX2_fill_119 (by decide) ?_
              rw [upd_eq i h3]
              refine R_loc [0, 2, 3, 4, 5, 6] (loc' := [(5, _), (0, _), (1, _), (2, _), (3, _), (4, _)]) (by rfl) ?_
              exact ih (i + 1) (by omega) (by omega) (by omega)
          · refine R_aload_n (i := 0) (q := 54) dX2_fill_53 rfl rfl rfl ?_
            refine R_getR (q := 57) dX2_fill_54 fl_X2_18 rfl (by decide) rfl ?_
            refine R_iload (q := 59) dX2_fill_57 rfl rfl ?_
            refine R_iload (q := 61) dX2_fill_59 rfl rfl ?_
            refine R_iast (q := 62) dX2_fill_61 (rfl) (by omega) (by decide) rfl ?_
            refine R_goto (q := 116) dX2_fill_62 (by decide) ?_
            first | refine R_iincN (q := 119) (loc' := [(5, _), (6, _), (0, _), (1, _), (2, _), (3, _), (4, _)]) dX2_fill_116 (by rfl) (by decide) (by rfl) rfl ?_ | refine R_iinc (q := 119) (loc' := [(5, _), (6, _), (0, _), (1, _), (2, _), (3, _), (4, _)]) dX2_fill_116 (by rfl) (by rfl) (by decide) (by rfl) rfl ?_
            refine R_goto (q := 5) dX2_fill_119 (by decide) ?_
            have e9 : nI (pdt S i) = nI (vl S a b i) := by rw [hv, if_pos ⟨c3, c4⟩]
            rw [e9, upd_eq i h3]
            refine R_loc [0, 2, 3, 4, 5, 6] (loc' := [(5, _), (0, _), (1, _), (2, _), (3, _), (4, _)]) (by rfl) ?_
            exact ih (i + 1) (by omega) (by omega) (by omega)
      · refine R_aload_n (i := 0) (q := 34) dX2_fill_33 rfl rfl rfl ?_
        refine R_getR (q := 37) dX2_fill_34 fl_X2_18 rfl (by decide) rfl ?_
        refine R_iload (q := 39) dX2_fill_37 rfl rfl ?_
        refine R_iconst (v := nI 0) (q := 40) dX2_fill_39 (by decide) rfl ?_
        refine R_iast (q := 41) dX2_fill_40 (rfl) (by omega) (by decide) rfl ?_
        refine R_goto (q := 116) dX2_fill_41 (by decide) ?_
        first | refine R_iincN (q := 119) (loc' := [(5, _), (6, _), (0, _), (1, _), (2, _), (3, _), (4, _)]) dX2_fill_116 (by rfl) (by decide) (by rfl) rfl ?_ | refine R_iinc (q := 119) (loc' := [(5, _), (6, _), (0, _), (1, _), (2, _), (3, _), (4, _)]) dX2_fill_116 (by rfl) (by rfl) (by decide) (by rfl) rfl ?_
        refine R_goto (q := 5) dX2_fill_119 (by decide) ?_
        have e9 : nI 0 = nI (vl S a b i) := by
          unfold vl
          rw [if_pos (fun h => c2 ((inN_nI (by omega) (by omega)).mpr h))]
        rw [e9, upd_eq i h3]
        refine R_loc [0, 2, 3, 4, 5, 6] (loc' := [(5, _), (0, _), (1, _), (2, _), (3, _), (4, _)]) (by rfl) ?_
        exact ih (i + 1) (by omega) (by omega) (by omega)
theorem uA_id (w : Wd) (q : List Nat) (f : Nat → Int32) (h : ∀ k, f k = w.1 q k) : uA w q f = w := by
  have hf : f = w.1 q := funext h
  subst hf
  unfold uA
  have : (fun z => if z = q then w.1 q else w.1 z) = w.1 := by
    funext z
    by_cases hz : z = q
    · rw [if_pos hz, hz]
    · rw [if_neg hz]
  rw [this]
theorem c_ofill {S : Pic} {l : Nat} {a b : Prop} [Decidable a] [Decidable b] (hS : StA w p S) (hN : pN S ≤ 20) (hro : ∀ s, s < pN S → pro S s < 6 ∧ pco S s < 6) (hG : GuA w [0, 7] S) (hdt0 : ∀ k, k < 16 → pdt S k < 20) (hl : l < 4) (hp : p = [1] ∨ p = [2]) (hab : a ∨ b) : Ct X 0 (d + 1) MX2_fill [vR 2 0 [7], vR 5 0 p, vI (nI l), vI (bI a), vI (bI b)] w (qV fun w' => w' = uA w [1, 7] (fun k => if 4 * l ≤ k ∧ k < 4 * l + 4 then nI (vl S a b k) else w.1 [1, 7] k)) := by
  refine Ct.of (by decide) rfl (Nat.le_of_ble_eq_true rfl) ?_
  show Wq _ _ _ _ 0 [(0, _), (1, _), (2, _), (3, _), (4, _)] [] _ _
  refine R_iload_n (i := 2) (q := 1) dX2_fill_0 rfl rfl rfl ?_
  refine R_iconst (v := nI 4) (q := 2) dX2_fill_1 (by decide) rfl ?_
  first | refine R_imulN (q := 3) dX2_fill_2 rfl ?_ | refine R_imul (q := 3) dX2_fill_2 rfl ?_
  refine R_istore (q := 5) (loc' := [(5, _), (0, _), (1, _), (2, _), (3, _), (4, _)]) dX2_fill_3 (by decide) (by rfl) rfl ?_
  have h := l_ofill (X := X) (d := d) hS hN hro hG hdt0 hl hp hab 4 (4 * l) (by omega) (by omega) (by omega)
  rw [uA_id w [1, 7] (fun k => if 4 * l ≤ k ∧ k < 4 * l then nI (vl S a b k) else w.1 [1, 7] k) (fun k => if_neg (by omega))] at h
  rw [Nat.mul_comm] at h
  rw [Nat.mul_comm l 4]
  rw [Nat.mul_comm l 4] at h
  exact h
end OU
end
section
section OU
variable {X : Cx} {d : Nat} {p : List Nat} {w : Wd}
theorem c_betw0 {dn j : Nat} {D : Nat → Nat} (hj : j < 4) (hdn : dn ≤ 4) (h2 : dn < 4 → w.1 [1, 7] (dn * 4 + j) = nI (D (dn * 4 + j))) : Ct X 0 d MX2_between [vR 2 0 [7], vI (nI 0 - nI 1), vI (nI dn), vI (nI j)] w (qI fun y w' => y = nI (bw D 0 dn j) ∧ w' = w) := by
  have e : bw D 0 dn j = if 4 ≤ dn then 0 else D (dn * 4 + j) := if_pos rfl
  refine Ct.of (by decide) rfl (Nat.le_of_ble_eq_true rfl) ?_
  show Wq _ _ _ _ 0 [(0, _), (1, _), (2, _), (3, _)] [] _ _
  refine R_iload_n (i := 1) (q := 1) dX2_between_0 rfl rfl rfl ?_
  refine R_if_ge (tgt := 11) (q := 4) dX2_between_1 (by decide) rfl (fun c1 => ?_) (fun c1 => ?_)
  · exact absurd c1 (by decide)
  · refine R_iload_n (i := 2) (q := 5) dX2_between_4 rfl rfl rfl ?_
    refine R_iconst (v := nI 4) (q := 6) dX2_between_5 (by decide) rfl ?_
    refine R_icmp_ltN (by omega) (by omega) (tgt := 11) (q := 9) dX2_between_6 (by decide) rfl (fun c2 => ?_) (fun c2 => ?_)
    · refine R_iload_n (i := 1) (q := 12) dX2_between_11 rfl rfl rfl ?_
      refine R_if_ge (tgt := 26) (q := 15) dX2_between_12 (by decide) rfl (fun c3 => ?_) (fun c3 => ?_)
      · exact absurd c3 (by decide)
      · refine R_aload_n (i := 0) (q := 16) dX2_between_15 rfl rfl rfl ?_
        refine R_getR (q := 19) dX2_between_16 fl_X2_18 rfl (by decide) rfl ?_
        refine R_iload_n (i := 2) (q := 20) dX2_between_19 rfl rfl rfl ?_
        refine R_iconst (v := nI 4) (q := 21) dX2_between_20 (by decide) rfl ?_
        first | refine R_imulN (q := 22) dX2_between_21 rfl ?_ | refine R_imul (q := 22) dX2_between_21 rfl ?_
        refine R_iload_n (i := 3) (q := 23) dX2_between_22 rfl rfl rfl ?_
        first | refine R_iaddN (q := 24) dX2_between_23 rfl ?_ | refine R_iadd (q := 24) dX2_between_23 rfl ?_
        refine R_iald' (q := 25) dX2_between_24 (rfl) (by omega) (by decide) (h2 c2) rfl ?_
        refine R_ri dX2_between_25 rfl ?_
        exact ⟨by rw [e, if_neg (by omega)], rfl⟩
    · refine R_iconst (v := nI 0) (q := 10) dX2_between_9 (by decide) rfl ?_
      refine R_ri dX2_between_10 rfl ?_
      exact ⟨by rw [e, if_pos c2], rfl⟩
theorem c_betw1 {u dn j : Nat} {D : Nat → Nat} (hj : j < 4) (hu : u < 4) (hdn : dn ≤ 4) (hD : ∀ k, D k ≤ 20) (h1 : w.1 [1, 7] (u * 4 + j) = nI (D (u * 4 + j))) (h2 : dn < 4 → w.1 [1, 7] (dn * 4 + j) = nI (D (dn * 4 + j))) : Ct X 0 d MX2_between [vR 2 0 [7], vI (nI u), vI (nI dn), vI (nI j)] w (qI fun y w' => y = nI (bw D (u + 1) dn j) ∧ w' = w) := by
  have e : bw D (u + 1) dn j = if 4 ≤ dn then D (u * 4 + j) else (D (u * 4 + j) + D (dn * 4 + j)) / 2 := by
    unfold bw
    rw [if_neg (by omega), Nat.add_sub_cancel]
  have d1 := hD (u * 4 + j)
  have d2 := hD (dn * 4 + j)
  have hpos : 0 ≤ nI u := nI_pos' (by omega)
  refine Ct.of (by decide) rfl (Nat.le_of_ble_eq_true rfl) ?_
  show Wq _ _ _ _ 0 [(0, _), (1, _), (2, _), (3, _)] [] _ _
  refine R_iload_n (i := 1) (q := 1) dX2_between_0 rfl rfl rfl ?_
  refine R_if_ge (tgt := 11) (q := 4) dX2_between_1 (by decide) rfl (fun c1 => ?_) (fun c1 => ?_)
  · refine R_iload_n (i := 1) (q := 12) dX2_between_11 rfl rfl rfl ?_
    refine R_if_ge (tgt := 26) (q := 15) dX2_between_12 (by decide) rfl (fun c3 => ?_) (fun c3 => ?_)
    · refine R_iload_n (i := 2) (q := 27) dX2_between_26 rfl rfl rfl ?_
      refine R_iconst (v := nI 4) (q := 28) dX2_between_27 (by decide) rfl ?_
      refine R_icmp_ltN (by omega) (by omega) (tgt := 42) (q := 31) dX2_between_28 (by decide) rfl (fun c2 => ?_) (fun c2 => ?_)
      · refine R_aload_n (i := 0) (q := 43) dX2_between_42 rfl rfl rfl ?_
        refine R_getR (q := 46) dX2_between_43 fl_X2_18 rfl (by decide) rfl ?_
        refine R_iload_n (i := 1) (q := 47) dX2_between_46 rfl rfl rfl ?_
        refine R_iconst (v := nI 4) (q := 48) dX2_between_47 (by decide) rfl ?_
        first | refine R_imulN (q := 49) dX2_between_48 rfl ?_ | refine R_imul (q := 49) dX2_between_48 rfl ?_
        refine R_iload_n (i := 3) (q := 50) dX2_between_49 rfl rfl rfl ?_
        first | refine R_iaddN (q := 51) dX2_between_50 rfl ?_ | refine R_iadd (q := 51) dX2_between_50 rfl ?_
        refine R_iald' (q := 52) dX2_between_51 (rfl) (by omega) (by decide) (h1) rfl ?_
        refine R_aload_n (i := 0) (q := 53) dX2_between_52 rfl rfl rfl ?_
        refine R_getR (q := 56) dX2_between_53 fl_X2_18 rfl (by decide) rfl ?_
        refine R_iload_n (i := 2) (q := 57) dX2_between_56 rfl rfl rfl ?_
        refine R_iconst (v := nI 4) (q := 58) dX2_between_57 (by decide) rfl ?_
        first | refine R_imulN (q := 59) dX2_between_58 rfl ?_ | refine R_imul (q := 59) dX2_between_58 rfl ?_
        refine R_iload_n (i := 3) (q := 60) dX2_between_59 rfl rfl rfl ?_
        first | refine R_iaddN (q := 61) dX2_between_60 rfl ?_ | refine R_iadd (q := 61) dX2_between_60 rfl ?_
        refine R_iald' (q := 62) dX2_between_61 (rfl) (by omega) (by decide) (h2 c2) rfl ?_
        first | refine R_iaddN (q := 63) dX2_between_62 rfl ?_ | refine R_iadd (q := 63) dX2_between_62 rfl ?_
        refine R_iconst (v := nI 2) (q := 64) dX2_between_63 (by decide) rfl ?_
        refine R_idivN (by omega) (by omega) (by omega) (q := 65) dX2_between_64 rfl ?_
        refine R_ri dX2_between_65 rfl ?_
        exact ⟨by rw [e, if_neg (by omega)], rfl⟩
      · refine R_aload_n (i := 0) (q := 32) dX2_between_31 rfl rfl rfl ?_
        refine R_getR (q := 35) dX2_between_32 fl_X2_18 rfl (by decide) rfl ?_
        refine R_iload_n (i := 1) (q := 36) dX2_between_35 rfl rfl rfl ?_
        refine R_iconst (v := nI 4) (q := 37) dX2_between_36 (by decide) rfl ?_
        first | refine R_imulN (q := 38) dX2_between_37 rfl ?_ | refine R_imul (q := 38) dX2_between_37 rfl ?_
        refine R_iload_n (i := 3) (q := 39) dX2_between_38 rfl rfl rfl ?_
        first | refine R_iaddN (q := 40) dX2_between_39 rfl ?_ | refine R_iadd (q := 40) dX2_between_39 rfl ?_
        refine R_iald' (q := 41) dX2_between_40 (rfl) (by omega) (by decide) (h1) rfl ?_
        refine R_ri dX2_between_41 rfl ?_
        exact ⟨by rw [e, if_pos c2], rfl⟩
    · exact absurd hpos c3
  · exact absurd hpos c1
theorem sub_dec (v : Nat) : nI v + Int32.ofInt (-1) = nI v - nI 1 := by
  rw [Int32.sub_eq_add_neg]
  rfl
theorem l_up {m l : Nat} {b : Nat → Bool} (hm : w.1 [7] 2 = nI m) (hm16 : m < 16) (hb : ∀ k, k < 4 → bitN m k = if b k then 1 else 0) (Q : Option AV → Wd → Prop) : ∀ (u : Nat), u ≤ 4 → Wq X 0 (d + 1) MX2_fillBlank 22 [(2, vI (nI (uv b u) - nI 1)), (0, vR 2 0 [7]), (1, vI (nI l))] [] w Q → Wq X 0 (d + 1) MX2_fillBlank 4 [(2, vI (nI u - nI 1)), (0, vR 2 0 [7]), (1, vI (nI l))] [] w Q := by
  intro u
  induction u with
  | zero =>
    intro h1 kk
    refine R_iload_n (i := 2) (q := 5) dX2_fillBlank_4 rfl rfl rfl ?_
    refine R_if_lt (tgt := 22) (q := 8) dX2_fillBlank_5 (by decide) rfl (fun c1 => ?_) (fun c1 => ?_)
    · exact kk
    · exact absurd (by decide) c1
  | succ u ih =>
    intro h1 kk
    have e0 : nI (u + 1) - nI 1 = nI u := by rw [pk_sub (by omega)]; rfl
    refine R_iload_n (i := 2) (q := 5) dX2_fillBlank_4 rfl rfl rfl ?_
    refine R_if_lt (tgt := 22) (q := 8) dX2_fillBlank_5 (by decide) rfl (fun c1 => ?_) (fun c1 => ?_)
    · exact absurd (e0 ▸ c1) (nI_pos (by omega))
    · refine R_aload_n (i := 0) (q := 9) dX2_fillBlank_8 rfl rfl rfl ?_
      rw [e0]
      refine R_iload_n (i := 2) (q := 10) dX2_fillBlank_9 rfl rfl rfl ?_
      refine R_cV1i (M' := MX2_isBlank) (q := 13) dX2_fillBlank_10 ml_X2_49 mk_X2_isBlank (Nat.le_of_ble_eq_true rfl) rfl (c_isBlank hm hm16 (by omega)) ?_
      rintro _ w ⟨rfl, rfl⟩
      refine R_if_eqB (tgt := 22) (q := 16) dX2_fillBlank_13 (by decide) rfl (fun c2 => ?_) (fun c2 => ?_)
      · have hbu : ¬ b u = true := fun h => c2 (by rw [hb u (by omega), if_pos h])
        simp only [uv] at kk
        rw [if_neg hbu, e0] at kk
        exact kk
      · have hbu : b u = true := by
          cases h : b u
          · rw [hb u (by omega), h] at c2
            exact absurd c2 (by decide)
          · rfl
        simp only [uv] at kk
        rw [if_pos hbu] at kk
        refine R_iinc (q := 19) (loc' := [(2, vI (nI u - nI 1)), (0, _), (1, _)]) dX2_fillBlank_16 (by rfl) (sub_dec u) (by decide) (by rfl) rfl ?_
        refine R_goto (q := 4) dX2_fillBlank_19 (by decide) ?_
        exact ih (by omega) kk
theorem l_dn {m l : Nat} {b : Nat → Bool} {x : Int32} (hm : w.1 [7] 2 = nI m) (hm16 : m < 16) (hb : ∀ k, k < 4 → bitN m k = if b k then 1 else 0) (Q : Option AV → Wd → Prop) : ∀ (f k : Nat), 4 ≤ k + f → k ≤ 4 → Wq X 0 (d + 1) MX2_fillBlank 45 [(3, vI (nI (dv b f k))), (2, vI x), (0, vR 2 0 [7]), (1, vI (nI l))] [] w Q → Wq X 0 (d + 1) MX2_fillBlank 26 [(3, vI (nI k)), (2, vI x), (0, vR 2 0 [7]), (1, vI (nI l))] [] w Q := by
  intro f
  induction f with
  | zero =>
    intro k h1 h2 kk
    refine R_iload_n (i := 3) (q := 27) dX2_fillBlank_26 rfl rfl rfl ?_
    refine R_iconst (v := nI 4) (q := 28) dX2_fillBlank_27 (by decide) rfl ?_
    refine R_icmp_geN (by omega) (by omega) (tgt := 45) (q := 31) dX2_fillBlank_28 (by decide) rfl (fun c1 => ?_) (fun c1 => ?_)
    · exact kk
    · omega
  | succ f ih =>
    intro k h1 h2 kk
    refine R_iload_n (i := 3) (q := 27) dX2_fillBlank_26 rfl rfl rfl ?_
    refine R_iconst (v := nI 4) (q := 28) dX2_fillBlank_27 (by decide) rfl ?_
    refine R_icmp_geN (by omega) (by omega) (tgt := 45) (q := 31) dX2_fillBlank_28 (by decide) rfl (fun c1 => ?_) (fun c1 => ?_)
    · simp only [dv] at kk
      rw [if_neg (by omega)] at kk
      exact kk
    · refine R_aload_n (i := 0) (q := 32) dX2_fillBlank_31 rfl rfl rfl ?_
      refine R_iload_n (i := 3) (q := 33) dX2_fillBlank_32 rfl rfl rfl ?_
      refine R_cV1i (M' := MX2_isBlank) (q := 36) dX2_fillBlank_33 ml_X2_49 mk_X2_isBlank (Nat.le_of_ble_eq_true rfl) rfl (c_isBlank hm hm16 (by omega)) ?_
      rintro _ w ⟨rfl, rfl⟩
      refine R_if_eqB (tgt := 45) (q := 39) dX2_fillBlank_36 (by decide) rfl (fun c2 => ?_) (fun c2 => ?_)
      · have hbu : ¬ b k = true := fun h => c2 (by rw [hb k (by omega), if_pos h])
        simp only [dv] at kk
        rw [if_neg (fun h => hbu h.2)] at kk
        exact kk
      · have hbu : b k = true := by
          cases h : b k
          · rw [hb k (by omega), h] at c2
            exact absurd c2 (by decide)
          · rfl
        simp only [dv] at kk
        rw [if_pos ⟨c1, hbu⟩] at kk
        first | refine R_iincN (q := 42) (loc' := [(3, _), (2, _), (0, _), (1, _)]) dX2_fillBlank_39 (by rfl) (by decide) (by rfl) rfl ?_ | refine R_iinc (q := 42) (loc' := [(3, _), (2, _), (0, _), (1, _)]) dX2_fillBlank_39 (by rfl) (by rfl) (by decide) (by rfl) rfl ?_
        refine R_goto (q := 26) dX2_fillBlank_42 (by decide) ?_
        exact ih (k + 1) (by omega) (by omega) kk
theorem l_bl3 {l u dn : Nat} {D : Nat → Nat} (hl : l < 4) (hul : u ≤ l) (hdl : l < dn) (hdn : dn ≤ 4) (hD : ∀ k, D k ≤ 20) (h1 : 0 < u → ∀ j, j < 4 → w.1 [1, 7] ((u - 1) * 4 + j) = nI (D ((u - 1) * 4 + j))) (h2 : dn < 4 → ∀ j, j < 4 → w.1 [1, 7] (dn * 4 + j) = nI (D (dn * 4 + j))) : ∀ (f i : Nat), 4 ≤ i + f → i ≤ 4 → Wq X 0 (d + 1) MX2_fillBlank 48 [(4, vI (nI i)), (3, vI (nI dn)), (2, vI (nI u - nI 1)), (0, vR 2 0 [7]), (1, vI (nI l))] [] (uA w [1, 7] (fun k => if 4 * l ≤ k ∧ k < 4 * l + i then nI (bw D u dn (k - 4 * l)) else w.1 [1, 7] k)) (qV fun w' => w' = uA w [1, 7] (fun k => if 4 * l ≤ k ∧ k < 4 * l + 4 then nI (bw D u dn (k - 4 * l)) else w.1 [1, 7] k)) := by
  have upd_eq : ∀ (i : Nat), uI (uA w [1, 7] (fun k => if 4 * l ≤ k ∧ k < 4 * l + i then nI (bw D u dn (k - 4 * l)) else w.1 [1, 7] k)) [1, 7] (l * 4 + i) (nI (bw D u dn i)) = uA w [1, 7] (fun k => if 4 * l ≤ k ∧ k < 4 * l + (i + 1) then nI (bw D u dn (k - 4 * l)) else w.1 [1, 7] k) := by
    intro i
    unfold uI uA
    dsimp only
    congr 1
    funext q
    by_cases hq : q = [1, 7]
    · simp only [if_pos hq, if_true]
      funext j
      simp only [upd]
      by_cases hj : j = l * 4 + i
      · rw [if_pos hj, if_pos (by omega), hj]
        congr 2
        omega
      · rw [if_neg hj]
        by_cases h3 : 4 * l ≤ j ∧ j < 4 * l + i
        · rw [if_pos h3, if_pos (by omega)]
        · rw [if_neg h3, if_neg (by omega)]
    · simp only [if_neg hq]
  have rd : ∀ (i k : Nat), (k < 4 * l ∨ 4 * l + 4 ≤ k) → i ≤ 4 → (uA w [1, 7] (fun k => if 4 * l ≤ k ∧ k < 4 * l + i then nI (bw D u dn (k - 4 * l)) else w.1 [1, 7] k)).1 [1, 7] k = w.1 [1, 7] k := by
    intro i k h hi
    rw [uA_same, if_neg (by omega)]
  intro f
  induction f with
  | zero =>
    intro i h3 h4
    refine R_iload (q := 50) dX2_fillBlank_48 rfl rfl ?_
    refine R_iconst (v := nI 4) (q := 51) dX2_fillBlank_50 (by decide) rfl ?_
    refine R_icmp_geN (by omega) (by omega) (tgt := 79) (q := 54) dX2_fillBlank_51 (by decide) rfl (fun c1 => ?_) (fun c1 => ?_)
    · refine R_rv dX2_fillBlank_79 rfl ?_
      have : i = 4 := by omega
      rw [this]
    · omega
  | succ f ih =>
    intro i h3 h4
    refine R_iload (q := 50) dX2_fillBlank_48 rfl rfl ?_
    refine R_iconst (v := nI 4) (q := 51) dX2_fillBlank_50 (by decide) rfl ?_
    refine R_icmp_geN (by omega) (by omega) (tgt := 79) (q := 54) dX2_fillBlank_51 (by decide) rfl (fun c1 => ?_) (fun c1 => ?_)
    · refine R_rv dX2_fillBlank_79 rfl ?_
      have : i = 4 := by omega
      rw [this]
    · refine R_aload_n (i := 0) (q := 55) dX2_fillBlank_54 rfl rfl rfl ?_
      refine R_getR (q := 58) dX2_fillBlank_55 fl_X2_18 rfl (by decide) rfl ?_
      refine R_iload_n (i := 1) (q := 59) dX2_fillBlank_58 rfl rfl rfl ?_
      refine R_iconst (v := nI 4) (q := 60) dX2_fillBlank_59 (by decide) rfl ?_
      first | refine R_imulN (q := 61) dX2_fillBlank_60 rfl ?_ | refine R_imul (q := 61) dX2_fillBlank_60 rfl ?_
      refine R_iload (q := 63) dX2_fillBlank_61 rfl rfl ?_
      first | refine R_iaddN (q := 64) dX2_fillBlank_63 rfl ?_ | refine R_iadd (q := 64) dX2_fillBlank_63 rfl ?_
      refine R_aload_n (i := 0) (q := 65) dX2_fillBlank_64 rfl rfl rfl ?_
      refine R_iload_n (i := 2) (q := 66) dX2_fillBlank_65 rfl rfl rfl ?_
      refine R_iload_n (i := 3) (q := 67) dX2_fillBlank_66 rfl rfl rfl ?_
      refine R_iload (q := 69) dX2_fillBlank_67 rfl rfl ?_
      have kk : Wq X 0 (d + 1) MX2_fillBlank 72 [(4, vI (nI i)), (3, vI (nI dn)), (2, vI (nI u - nI 1)), (0, vR 2 0 [7]), (1, vI (nI l))] [vI (nI (bw D u dn i)), vI (nI (l * 4 + i)), vR 9 16 [1, 7]] (uA w [1, 7] (fun k => if 4 * l ≤ k ∧ k < 4 * l + i then nI (bw D u dn (k - 4 * l)) else w.1 [1, 7] k)) (qV fun w' => w' = uA w [1, 7] (fun k => if 4 * l ≤ k ∧ k < 4 * l + 4 then nI (bw D u dn (k - 4 * l)) else w.1 [1, 7] k)) := by
        refine R_iast (q := 73) dX2_fillBlank_72 (rfl) (by omega) (by decide) rfl ?_
        first | refine R_iincN (q := 76) (loc' := [(4, _), (3, _), (2, _), (0, _), (1, _)]) dX2_fillBlank_73 (by rfl) (by decide) (by rfl) rfl ?_ | refine R_iinc (q := 76) (loc' := [(4, _), (3, _), (2, _), (0, _), (1, _)]) dX2_fillBlank_73 (by rfl) (by rfl) (by decide) (by rfl) rfl ?_
        refine R_goto (q := 48) dX2_fillBlank_76 (by decide) ?_
        rw [upd_eq i]
        exact ih (i + 1) (by omega) (by omega)
      rcases Nat.eq_zero_or_pos u with hu | hu
      · subst hu
        refine R_cV3i (M' := MX2_between) (q := 72) dX2_fillBlank_69 ml_X2_70 mk_X2_between (Nat.le_of_ble_eq_true rfl) rfl (c_betw0 (D := D) c1 hdn (fun h => by rw [rd i _ (by omega) h4]; exact h2 h i c1)) ?_
        rintro _ w9 ⟨rfl, rfl⟩
        exact kk
      · obtain ⟨v, rfl⟩ : ∃ v, u = v + 1 := ⟨u - 1, by omega⟩
        have e0 : nI (v + 1) - nI 1 = nI v := by rw [pk_sub (by omega)]; rfl
        rw [e0] at kk ⊢
        have h1v := h1 hu i c1
        rw [Nat.add_sub_cancel] at h1v
        refine R_cV3i (M' := MX2_between) (q := 72) dX2_fillBlank_69 ml_X2_70 mk_X2_between (Nat.le_of_ble_eq_true rfl) rfl (c_betw1 (D := D) c1 (by omega) hdn hD (by rw [rd i _ (by omega) h4]; exact h1v) (fun h => by rw [rd i _ (by omega) h4]; exact h2 h i c1)) ?_
        rintro _ w9 ⟨rfl, rfl⟩
        exact kk
theorem c_fillBlank {m l : Nat} {b : Nat → Bool} {D : Nat → Nat} (hm : w.1 [7] 2 = nI m) (hm16 : m < 16) (hb : ∀ k, k < 4 → bitN m k = if b k then 1 else 0) (hl : l < 4) (hD : ∀ k, D k ≤ 20) (hA : ∀ k, k < 16 → b (k / 4) = false → w.1 [1, 7] k = nI (D k)) : Ct X 0 (d + 1) MX2_fillBlank [vR 2 0 [7], vI (nI l)] w (qV fun w' => w' = uA w [1, 7] (fun k => if 4 * l ≤ k ∧ k < 4 * l + 4 then nI (bw D (uv b l) (dv b 4 (l + 1)) (k - 4 * l)) else w.1 [1, 7] k)) := by
  have hu := uv_le b l
  have hn := uv_nb b l
  have hdv := dv_nb b 4 (l + 1) (by omega) (by omega)
  refine Ct.of (by decide) rfl (Nat.le_of_ble_eq_true rfl) ?_
  show Wq _ _ _ _ 0 [(0, _), (1, _)] [] _ _
  refine R_iload_n (i := 1) (q := 1) dX2_fillBlank_0 rfl rfl rfl ?_
  refine R_iconst (v := nI 1) (q := 2) dX2_fillBlank_1 (by decide) rfl ?_
  refine R_isub (q := 3) dX2_fillBlank_2 rfl ?_
  refine R_istore_n (i := 2) (q := 4) (loc' := [(2, _), (0, _), (1, _)]) dX2_fillBlank_3 rfl (by decide) (by rfl) rfl ?_
  refine l_up hm hm16 hb _ l (by omega) ?_
  refine R_iload_n (i := 1) (q := 23) dX2_fillBlank_22 rfl rfl rfl ?_
  refine R_iconst (v := nI 1) (q := 24) dX2_fillBlank_23 (by decide) rfl ?_
  first | refine R_iaddN (q := 25) dX2_fillBlank_24 rfl ?_ | refine R_iadd (q := 25) dX2_fillBlank_24 rfl ?_
  refine R_istore_n (i := 3) (q := 26) (loc' := [(3, _), (2, _), (0, _), (1, _)]) dX2_fillBlank_25 rfl (by decide) (by rfl) rfl ?_
  refine l_dn hm hm16 hb _ 4 (l + 1) (by omega) (by omega) ?_
  refine R_iconst (v := nI 0) (q := 46) dX2_fillBlank_45 (by decide) rfl ?_
  refine R_istore (q := 48) (loc' := [(4, _), (3, _), (2, _), (0, _), (1, _)]) dX2_fillBlank_46 (by decide) (by rfl) rfl ?_
  have h := l_bl3 (X := X) (d := d) (w := w) (l := l) (u := uv b l) (dn := dv b 4 (l + 1)) (D := D) hl hu (by omega) (by omega) hD ?_ ?_ 4 0 (by omega) (by omega)
  · rw [uA_id w [1, 7] _ (fun k => if_neg (by omega))] at h
    exact h
  · intro h0 j hj
    rcases hn with hn | ⟨hn1, hn2⟩
    · omega
    · refine hA _ (by omega) ?_
      rw [show ((uv b l - 1) * 4 + j) / 4 = uv b l - 1 by omega]
      exact hn2
  · intro h0 j hj
    rcases hdv with hdv | ⟨h3, h4, h5⟩
    · omega
    · refine hA _ (by omega) ?_
      rw [show (dv b 4 (l + 1) * 4 + j) / 4 = dv b 4 (l + 1) by omega]
      exact h5
abbrev FO : List (List Nat) := [[7], [1, 7], [0, 0, 7], [1, 0, 7], [2, 0, 7], [3, 0, 7]]
/-- what the cells of what comes out hold -/
def OutA (w : Wd) (S : Pic) (sh lo : Nat) : Prop := w.1 [7] 2 = nI (bmN (blk sh lo) 4) ∧ ∀ k, k < 16 → w.1 [1, 7] k = nI (outN S sh lo k)
/-- what is asked of a state ahead of a sending -/
def OKo (S : Pic) : Prop := pN S ≤ 20 ∧ (∀ s, s < pN S → pro S s < 6 ∧ pco S s < 6) ∧ ∀ k, k < 16 → pdt S k < 20
theorem OKS.o {S : Pic} (h : OKS S) : OKo S := by
  obtain ⟨h1, h2, h3, h4, h5, h6, h7, h8⟩ := h
  refine ⟨h3, ?_, ?_⟩
  · intro s hs
    have := h6 s hs
    omega
  · intro k hk
    rcases h8 k hk with h | h <;> omega
theorem blk_t {sh lo l : Nat} (h1 : ¬ rC lo l) (h2 : ¬ cC sh lo l) : blk sh lo l = true := by
  simp [blk, h1, h2]
theorem blk_f {sh lo l : Nat} (h : rC lo l ∨ cC sh lo l) : blk sh lo l = false := by
  unfold blk
  rcases h with h | h
  · rw [decide_eq_true h]
    rfl
  · rw [decide_eq_true h, Bool.not_true, Bool.and_false]
theorem l_send1 {S : Pic} {sh lo : Nat} {w0 : Wd} (hS0 : StA w0 p S) (hO : OKo S) (hp : p = [1] ∨ p = [2]) (hsh : sh < 4) (hlo : lo < 16) (Q : Option AV → Wd → Prop) (kk : ∀ w, w.1 [7] 2 = nI (bmN (blk sh lo) 4) → (∀ k, k < 16 → blk sh lo (k / 4) = false → w.1 [1, 7] k = nI (vk S sh lo k)) → Fr FO w0 w → Wq X 0 (d + 3) MX2_send 87 [(4, vI (nI 4)), (0, vR 2 0 [7]), (1, vR 5 0 p), (2, vI (nI sh)), (3, vI (nI lo))] [] w Q) : ∀ (f l : Nat) (w : Wd), 4 ≤ l + f → l ≤ 4 → StA w p S → GuA w [0, 7] S → w.1 [7] 2 = nI (bmN (blk sh lo) l) → (∀ k, k < 16 → k / 4 < l → blk sh lo (k / 4) = false → w.1 [1, 7] k = nI (vk S sh lo k)) → Fr FO w0 w → Wq X 0 (d + 3) MX2_send 16 [(4, vI (nI l)), (0, vR 2 0 [7]), (1, vR 5 0 p), (2, vI (nI sh)), (3, vI (nI lo))] [] w Q := by
  have q0 : p ≠ [7] := by rcases hp with rfl | rfl <;> decide
  have q5 : 5 :: p ≠ [7] := by rcases hp with rfl | rfl <;> decide
  have q6 : 6 :: p ≠ [7] := by rcases hp with rfl | rfl <;> decide
  have q7 : 7 :: p ≠ [7] := by rcases hp with rfl | rfl <;> decide
  have r0 : p ≠ [1, 7] := by rcases hp with rfl | rfl <;> decide
  have r5 : 5 :: p ≠ [1, 7] := by rcases hp with rfl | rfl <;> decide
  have r6 : 6 :: p ≠ [1, 7] := by rcases hp with rfl | rfl <;> decide
  have r7 : 7 :: p ≠ [1, 7] := by rcases hp with rfl | rfl <;> decide
  intro f
  induction f with
  | zero =>
    intro l w h1 h2 hS hG hB hA hF
    refine R_iload (q := 18) dX2_send_16 rfl rfl ?_
    refine R_iconst (v := nI 4) (q := 19) dX2_send_18 (by decide) rfl ?_
    refine R_icmp_geN (by omega) (by omega) (tgt := 87) (q := 22) dX2_send_19 (by decide) rfl (fun c1 => ?_) (fun c1 => ?_)
    · obtain rfl : l = 4 := by omega
      exact kk w hB (fun k hk hb => hA k hk (by omega) hb) hF
    · omega
  | succ f ih =>
    intro l w h1 h2 hS hG hB hA hF
    refine R_iload (q := 18) dX2_send_16 rfl rfl ?_
    refine R_iconst (v := nI 4) (q := 19) dX2_send_18 (by decide) rfl ?_
    refine R_icmp_geN (by omega) (by omega) (tgt := 87) (q := 22) dX2_send_19 (by decide) rfl (fun c1 => ?_) (fun c1 => ?_)
    · obtain rfl : l = 4 := by omega
      exact kk w hB (fun k hk hb => hA k hk (by omega) hb) hF
    · have hm4 : (l + 4 - sh) % 4 < 4 := Nat.mod_lt _ (by decide)
      refine R_iload_n (i := 3) (q := 23) dX2_send_22 rfl rfl rfl ?_
      refine R_iload (q := 25) dX2_send_23 rfl rfl ?_
      refine R_cS2i (M' := MX2_came) (q := 28) dX2_send_25 ml_X2_41 mk_X2_came (Nat.le_of_ble_eq_true rfl) rfl (c_came hlo c1) ?_
      rintro _ w ⟨rfl, rfl⟩
      refine R_istore (q := 30) (loc' := [(5, _), (4, _), (0, _), (1, _), (2, _), (3, _)]) dX2_send_28 (by decide) (by rfl) rfl ?_
      refine R_iload_n (i := 3) (q := 31) dX2_send_30 rfl rfl rfl ?_
      refine R_iload (q := 33) dX2_send_31 rfl rfl ?_
      refine R_iconst (v := nI 4) (q := 34) dX2_send_33 (by decide) rfl ?_
      first | refine R_iaddN (q := 35) dX2_send_34 rfl ?_ | refine R_iadd (q := 35) dX2_send_34 rfl ?_
      refine R_iload_n (i := 2) (q := 36) dX2_send_35 rfl rfl rfl ?_
      refine R_isubN (by omega) (q := 37) dX2_send_36 rfl ?_
      refine R_iconst (v := nI 4) (q := 38) dX2_send_37 (by decide) rfl ?_
      refine R_iremN (by omega) (by omega) (by omega) (q := 39) dX2_send_38 rfl ?_
      refine R_cS2i (M' := MX2_came) (q := 42) dX2_send_39 ml_X2_41 mk_X2_came (Nat.le_of_ble_eq_true rfl) rfl (c_came hlo hm4) ?_
      rintro _ w ⟨rfl, rfl⟩
      refine R_istore (q := 44) (loc' := [(6, _), (5, _), (4, _), (0, _), (1, _), (2, _), (3, _)]) dX2_send_42 (by decide) (by rfl) rfl ?_
      refine R_iload (q := 46) dX2_send_44 rfl rfl ?_
      have hfill : (rC lo l ∨ cC sh lo l) → Wq X 0 (d + 3) MX2_send 54 [(6, vI (bI (cC sh lo l))), (5, vI (bI (rC lo l))), (4, vI (nI l)), (0, vR 2 0 [7]), (1, vR 5 0 p), (2, vI (nI sh)), (3, vI (nI lo))] [] w Q := by
        intro hab
        refine R_aload_n (i := 0) (q := 55) dX2_send_54 rfl rfl rfl ?_
        refine R_aload_n (i := 1) (q := 56) dX2_send_55 rfl rfl rfl ?_
        refine R_iload (q := 58) dX2_send_56 rfl rfl ?_
        refine R_iload (q := 60) dX2_send_58 rfl rfl ?_
        refine R_iload (q := 62) dX2_send_60 rfl rfl ?_
        refine R_cV4v (M' := MX2_fill) (q := 65) dX2_send_62 ml_X2_45 mk_X2_fill (Nat.le_of_ble_eq_true rfl) rfl (c_ofill hS hO.1 hO.2.1 hG hO.2.2 c1 hp hab) ?_
        rintro w1 rfl
        refine R_goto (q := 81) dX2_send_65 (by decide) ?_
        first | refine R_iincN (q := 84) (loc' := [(4, _), (6, _), (5, _), (0, _), (1, _), (2, _), (3, _)]) dX2_send_81 (by rfl) (by decide) (by rfl) rfl ?_ | refine R_iinc (q := 84) (loc' := [(4, _), (6, _), (5, _), (0, _), (1, _), (2, _), (3, _)]) dX2_send_81 (by rfl) (by rfl) (by decide) (by rfl) rfl ?_
        refine R_goto (q := 16) dX2_send_84 (by decide) ?_
        refine R_loc [0, 3, 4, 5, 6] (loc' := [(4, _), (0, _), (1, _), (2, _), (3, _)]) (by rfl) ?_
        refine ih (l + 1) _ (by omega) (by omega) (hS.fr (F := [[1, 7]]) (Fr.a (by simp)) (by simpa using r0) (by simpa using r5) (by simpa using r6) (by simpa using r7)) ?_ ?_ ?_ (hF.tr (Fr.a (by simp)))
        · refine ⟨fun i hi => ?_, fun i hi => ?_, ?_, ?_⟩
          · rw [uA_ne (by decide)]; exact hG.1 i hi
          · rw [uA_ne (by decide)]; exact hG.2.1 i hi
          · rw [uA_ne (by decide)]; exact hG.2.2.1
          · rw [uA_ne (by decide)]; exact hG.2.2.2
        · rw [uA_ne (by decide), hB]
          simp only [bmN]
          rw [if_neg (by rw [blk_f hab]; decide), Nat.add_zero]
        · intro k hk hkl hb
          rw [uA_same]
          by_cases h9 : 4 * l ≤ k ∧ k < 4 * l + 4
          · rw [if_pos h9]
            unfold vk
            rw [show k / 4 = l by omega]
          · rw [if_neg h9]
            exact hA k hk (by omega) hb
      refine R_if_neB (tgt := 54) (q := 49) dX2_send_46 (by decide) rfl (fun c2 => ?_) (fun c2 => ?_)
      · exact hfill (Or.inl c2)
      · refine R_iload (q := 51) dX2_send_49 rfl rfl ?_
        refine R_if_eqB (tgt := 68) (q := 54) dX2_send_51 (by decide) rfl (fun c3 => ?_) (fun c3 => ?_)
        · have hbk := blk_t c2 c3
          refine R_aload_n (i := 0) (q := 69) dX2_send_68 rfl rfl rfl ?_
          refine R_dup (q := 70) dX2_send_69 rfl rfl ?_
          refine R_getI' (q := 73) dX2_send_70 fl_X2_37 rfl (hB) rfl ?_
          refine R_iconst (v := nI 1) (q := 74) dX2_send_73 (by decide) rfl ?_
          refine R_iload (q := 76) dX2_send_74 rfl rfl ?_
          refine R_ishl (q := 77) dX2_send_76 rfl ?_
          refine R_ior (q := 78) dX2_send_77 rfl ?_
          refine R_putI (q := 81) dX2_send_78 fl_X2_37 rfl rfl ?_
          rw [or_fin l c1 _ (Nat.lt_of_lt_of_le (bmN_lt _ l) (show 2 ^ l ≤ 2 ^ 4 from Nat.pow_le_pow_right (by decide) (by omega))) (bmN_lt _ l)]
          first | refine R_iincN (q := 84) (loc' := [(4, _), (6, _), (5, _), (0, _), (1, _), (2, _), (3, _)]) dX2_send_81 (by rfl) (by decide) (by rfl) rfl ?_ | refine R_iinc (q := 84) (loc' := [(4, _), (6, _), (5, _), (0, _), (1, _), (2, _), (3, _)]) dX2_send_81 (by rfl) (by rfl) (by decide) (by rfl) rfl ?_
          refine R_goto (q := 16) dX2_send_84 (by decide) ?_
          refine R_loc [0, 3, 4, 5, 6] (loc' := [(4, _), (0, _), (1, _), (2, _), (3, _)]) (by rfl) ?_
          refine ih (l + 1) _ (by omega) (by omega) (hS.fr (F := [[7]]) (Fr.i (by simp)) (by simpa using q0) (by simpa using q5) (by simpa using q6) (by simpa using q7)) ?_ ?_ ?_ (hF.tr (Fr.i (by simp)))
          · refine ⟨fun i hi => ?_, fun i hi => ?_, ?_, ?_⟩
            · rw [uI_nep (by decide)]; exact hG.1 i hi
            · rw [uI_nep (by decide)]; exact hG.2.1 i hi
            · rw [uI_nep (by decide)]; exact hG.2.2.1
            · rw [uI_nep (by decide)]; exact hG.2.2.2
          · rw [uI_same]
            simp only [bmN]
            rw [if_pos hbk]
          · intro k hk hkl hb
            rw [uI_nep (by decide)]
            refine hA k hk ?_ hb
            rcases Nat.lt_or_ge (k / 4) l with h9 | h9
            · exact h9
            · have : k / 4 = l := by omega
              rw [this, hbk] at hb
              cases hb
        · exact hfill (Or.inr c3)
theorem l_send2 {S : Pic} {sh lo : Nat} {w0 : Wd} (hN : pN S ≤ 20) : ∀ (f l : Nat) (w : Wd), 4 ≤ l + f → l ≤ 4 → w.1 [7] 2 = nI (bmN (blk sh lo) 4) → (∀ k, k < 16 → blk sh lo (k / 4) = false → w.1 [1, 7] k = nI (vk S sh lo k)) → (∀ k, k < 16 → k / 4 < l → w.1 [1, 7] k = nI (outN S sh lo k)) → Fr FO w0 w → Wq X 0 (d + 3) MX2_send 90 [(4, vI (nI l)), (0, vR 2 0 [7]), (1, vR 5 0 p), (2, vI (nI sh)), (3, vI (nI lo))] [] w (qV fun w' => OutA w' S sh lo ∧ Fr FO w0 w') := by
  have hm16 : bmN (blk sh lo) 4 < 16 := bmN_lt _ 4
  intro f
  induction f with
  | zero =>
    intro l w h1 h2 hB hA hC hF
    refine R_iload (q := 92) dX2_send_90 rfl rfl ?_
    refine R_iconst (v := nI 4) (q := 93) dX2_send_92 (by decide) rfl ?_
    refine R_icmp_geN (by omega) (by omega) (tgt := 117) (q := 96) dX2_send_93 (by decide) rfl (fun c1 => ?_) (fun c1 => ?_)
    · obtain rfl : l = 4 := by omega
      refine R_rv dX2_send_117 rfl ?_
      exact ⟨⟨hB, fun k hk => hC k hk (by omega)⟩, hF⟩
    · omega
  | succ f ih =>
    intro l w h1 h2 hB hA hC hF
    refine R_iload (q := 92) dX2_send_90 rfl rfl ?_
    refine R_iconst (v := nI 4) (q := 93) dX2_send_92 (by decide) rfl ?_
    refine R_icmp_geN (by omega) (by omega) (tgt := 117) (q := 96) dX2_send_93 (by decide) rfl (fun c1 => ?_) (fun c1 => ?_)
    · obtain rfl : l = 4 := by omega
      refine R_rv dX2_send_117 rfl ?_
      exact ⟨⟨hB, fun k hk => hC k hk (by omega)⟩, hF⟩
    · refine R_aload_n (i := 0) (q := 97) dX2_send_96 rfl rfl rfl ?_
      refine R_iload (q := 99) dX2_send_97 rfl rfl ?_
      refine R_cV1i (M' := MX2_isBlank) (q := 102) dX2_send_99 ml_X2_49 mk_X2_isBlank (Nat.le_of_ble_eq_true rfl) rfl (c_isBlank hB hm16 c1) ?_
      rintro _ w ⟨rfl, rfl⟩
      rw [bit_bm _ l c1]
      refine R_if_eqB (tgt := 111) (q := 105) dX2_send_102 (by decide) rfl (fun c2 => ?_) (fun c2 => ?_)
      · have hbf : blk sh lo l = false := by
          cases h : blk sh lo l
          · rfl
          · rw [h] at c2; exact absurd rfl c2
        first | refine R_iincN (q := 114) (loc' := [(4, _), (0, _), (1, _), (2, _), (3, _)]) dX2_send_111 (by rfl) (by decide) (by rfl) rfl ?_ | refine R_iinc (q := 114) (loc' := [(4, _), (0, _), (1, _), (2, _), (3, _)]) dX2_send_111 (by rfl) (by rfl) (by decide) (by rfl) rfl ?_
        refine R_goto (q := 90) dX2_send_114 (by decide) ?_
        refine ih (l + 1) w (by omega) (by omega) hB hA ?_ hF
        intro k hk hkl
        rcases Nat.lt_or_ge (k / 4) l with h9 | h9
        · exact hC k hk h9
        · have e : k / 4 = l := by omega
          rw [hA k hk (by rw [e]; exact hbf)]
          unfold outN
          rw [e, hbf]
          rfl
      · have hbt : blk sh lo l = true := by
          cases h : blk sh lo l
          · rw [h] at c2; exact absurd c2 (by decide)
          · rfl
        refine R_aload_n (i := 0) (q := 106) dX2_send_105 rfl rfl rfl ?_
        refine R_iload (q := 108) dX2_send_106 rfl rfl ?_
        refine R_cV1v (M' := MX2_fillBlank) (q := 111) dX2_send_108 ml_X2_53 mk_X2_fillBlank (Nat.le_of_ble_eq_true rfl) rfl (c_fillBlank (b := blk sh lo) (D := vk S sh lo) hB hm16 (fun k hk => bit_bm _ k hk) c1 (fun k => Nat.le_trans vl_le hN) hA) ?_
        rintro w1 rfl
        first | refine R_iincN (q := 114) (loc' := [(4, _), (0, _), (1, _), (2, _), (3, _)]) dX2_send_111 (by rfl) (by decide) (by rfl) rfl ?_ | refine R_iinc (q := 114) (loc' := [(4, _), (0, _), (1, _), (2, _), (3, _)]) dX2_send_111 (by rfl) (by rfl) (by decide) (by rfl) rfl ?_
        refine R_goto (q := 90) dX2_send_114 (by decide) ?_
        refine ih (l + 1) _ (by omega) (by omega) (by rw [uA_ne (by decide)]; exact hB) ?_ ?_ (hF.tr (Fr.a (by simp)))
        · intro k hk hb
          rw [uA_same, if_neg]
          · exact hA k hk hb
          · intro h9
            rw [show k / 4 = l by omega, hbt] at hb
            cases hb
        · intro k hk hkl
          rw [uA_same]
          by_cases h9 : 4 * l ≤ k ∧ k < 4 * l + 4
          · rw [if_pos h9]
            unfold outN
            rw [show k / 4 = l by omega, if_pos hbt, show k % 4 = k - 4 * l by omega]
          · rw [if_neg h9]
            exact hC k hk (by omega)
theorem c_send {S : Pic} {sh lo : Nat} (hS : StA w p S) (hO : OKo S) (hp : p = [1] ∨ p = [2]) (hsh : sh < 4) (hlo : lo < 16) : Ct X 0 (d + 3) MX2_send [vR 2 0 [7], vR 5 0 p, vI (nI sh), vI (nI lo)] w (qV fun w' => OutA w' S sh lo ∧ Fr FO w w') := by
  have g0 : p ∉ FG [0, 7] := by rcases hp with rfl | rfl <;> decide
  have g5 : 5 :: p ∉ FG [0, 7] := by rcases hp with rfl | rfl <;> decide
  have g6 : 6 :: p ∉ FG [0, 7] := by rcases hp with rfl | rfl <;> decide
  have g7 : 7 :: p ∉ FG [0, 7] := by rcases hp with rfl | rfl <;> decide
  have q0 : p ∉ [[7]] := by rcases hp with rfl | rfl <;> decide
  have q5 : 5 :: p ∉ [[7]] := by rcases hp with rfl | rfl <;> decide
  have q6 : 6 :: p ∉ [[7]] := by rcases hp with rfl | rfl <;> decide
  have q7 : 7 :: p ∉ [[7]] := by rcases hp with rfl | rfl <;> decide
  refine Ct.of (by decide) rfl (Nat.le_of_ble_eq_true rfl) ?_
  show Wq _ _ _ _ 0 [(0, _), (1, _), (2, _), (3, _)] [] _ _
  refine R_aload_n (i := 0) (q := 1) dX2_send_0 rfl rfl rfl ?_
  refine R_getR (q := 4) dX2_send_1 fl_X2_12 rfl (by decide) rfl ?_
  refine R_aload_n (i := 1) (q := 5) dX2_send_4 rfl rfl rfl ?_
  refine R_cV1v (M' := MX1_take) (q := 8) dX2_send_5 ml_X2_33 mk_X1_take (Nat.le_of_ble_eq_true rfl) rfl (c_take (g := [0, 7]) hS hO.1 hO.2.1 g0 g5 g6 g7) ?_
  rintro w1 ⟨hG1, hF1⟩
  refine R_aload_n (i := 0) (q := 9) dX2_send_8 rfl rfl rfl ?_
  refine R_iconst (v := nI 0) (q := 10) dX2_send_9 (by decide) rfl ?_
  refine R_putI (q := 13) dX2_send_10 fl_X2_37 rfl rfl ?_
  refine R_iconst (v := nI 0) (q := 14) dX2_send_13 (by decide) rfl ?_
  refine R_istore (q := 16) (loc' := [(4, _), (0, _), (1, _), (2, _), (3, _)]) dX2_send_14 (by decide) (by rfl) rfl ?_
  refine l_send1 (w0 := w) hS hO hp hsh hlo _ ?_ 4 0 _ (by omega) (by omega) ((hS.fr hF1 g0 g5 g6 g7).fr (F := [[7]]) (Fr.i (by simp)) q0 q5 q6 q7) ?_ (uI_same _ _ _ _) (fun k _ h => absurd h (Nat.not_lt_zero _)) ((hF1.up (by simp)).tr (Fr.i (by simp)))
  · intro w2 hB2 hA2 hF2
    refine R_iconst (v := nI 0) (q := 88) dX2_send_87 (by decide) rfl ?_
    refine R_istore (q := 90) (loc' := [(4, _), (0, _), (1, _), (2, _), (3, _)]) dX2_send_88 (by decide) (by rfl) rfl ?_
    exact l_send2 hO.1 4 0 w2 (by omega) (by omega) hB2 hA2 (fun k _ h => absurd h (Nat.not_lt_zero _)) hF2
  · refine ⟨fun i hi => ?_, fun i hi => ?_, ?_, ?_⟩
    · rw [uI_nep (by decide)]; exact hG1.1 i hi
    · rw [uI_nep (by decide)]; exact hG1.2.1 i hi
    · rw [uI_nep (by decide)]; exact hG1.2.2.1
    · rw [uI_nep (by decide)]; exact hG1.2.2.2
theorem l_missBy {S : Pic} {sh lo : Nat} {w0 : Wd} (hS : StA w p S) (hA : OutA w S sh lo) (hF : Fr FO w0 w) : ∀ (f k : Nat), 16 ≤ k + f → k ≤ 16 → Wq X 0 (d + 4) MX2_missBy 13 [(5, vI (nI k)), (4, vI (nI (sm (fun k => sq (outN S sh lo k) (pdt S k)) k))), (0, vR 2 0 [7]), (1, vR 5 0 p), (2, vI (nI sh)), (3, vI (nI lo))] [] w (qI fun x w' => x = nI (msN S sh lo) ∧ Fr FO w0 w') := by
  intro f
  induction f with
  | zero =>
    intro k h1 h2
    refine R_iload (q := 15) dX2_missBy_13 rfl rfl ?_
    refine R_bipush (v := nI 16) (q := 17) dX2_missBy_15 (by decide) rfl ?_
    refine R_icmp_geN (by omega) (by omega) (tgt := 49) (q := 20) dX2_missBy_17 (by decide) rfl (fun c1 => ?_) (fun c1 => ?_)
    · obtain rfl : k = 16 := by omega
      refine R_iload (q := 51) dX2_missBy_49 rfl rfl ?_
      refine R_ri dX2_missBy_51 rfl ?_
      exact ⟨rfl, hF⟩
    · omega
  | succ f ih =>
    intro k h1 h2
    refine R_iload (q := 15) dX2_missBy_13 rfl rfl ?_
    refine R_bipush (v := nI 16) (q := 17) dX2_missBy_15 (by decide) rfl ?_
    refine R_icmp_geN (by omega) (by omega) (tgt := 49) (q := 20) dX2_missBy_17 (by decide) rfl (fun c1 => ?_) (fun c1 => ?_)
    · obtain rfl : k = 16 := by omega
      refine R_iload (q := 51) dX2_missBy_49 rfl rfl ?_
      refine R_ri dX2_missBy_51 rfl ?_
      exact ⟨rfl, hF⟩
    · have e := ih (k + 1) (by omega) (by omega)
      simp only [sm] at e
      refine R_iload (q := 22) dX2_missBy_20 rfl rfl ?_
      refine R_aload_n (i := 0) (q := 23) dX2_missBy_22 rfl rfl rfl ?_
      refine R_getR (q := 26) dX2_missBy_23 fl_X2_18 rfl (by decide) rfl ?_
      refine R_iload (q := 28) dX2_missBy_26 rfl rfl ?_
      refine R_iald' (q := 29) dX2_missBy_28 (rfl) (by omega) (by decide) (hA.2 k c1) rfl ?_
      refine R_aload_n (i := 1) (q := 30) dX2_missBy_29 rfl rfl rfl ?_
      refine R_getR (q := 33) dX2_missBy_30 fl_X2_26 rfl (by decide) rfl ?_
      refine R_iload (q := 35) dX2_missBy_33 rfl rfl ?_
      refine R_iald' (q := 36) dX2_missBy_35 (rfl) (by omega) (by decide) (hS.2.2.2.2.2.2.2 k c1) rfl ?_
      refine R_isub (q := 37) dX2_missBy_36 rfl ?_
      refine R_cS1i (M' := MX7_square) (q := 40) dX2_missBy_37 ml_X2_29 mk_X7_square (Nat.le_of_ble_eq_true rfl) rfl (c_square) ?_
      rintro _ w ⟨rfl, rfl⟩
      rw [sq_nI]
      first | refine R_iaddN (q := 41) dX2_missBy_40 rfl ?_ | refine R_iadd (q := 41) dX2_missBy_40 rfl ?_
      refine R_istore (q := 43) (loc' := [(4, _), (5, _), (0, _), (1, _), (2, _), (3, _)]) dX2_missBy_41 (by decide) (by rfl) rfl ?_
      first | refine R_iincN (q := 46) (loc' := [(5, _), (4, _), (0, _), (1, _), (2, _), (3, _)]) dX2_missBy_43 (by rfl) (by decide) (by rfl) rfl ?_ | refine R_iinc (q := 46) (loc' := [(5, _), (4, _), (0, _), (1, _), (2, _), (3, _)]) dX2_missBy_43 (by rfl) (by rfl) (by decide) (by rfl) rfl ?_
      refine R_goto (q := 13) dX2_missBy_46 (by decide) ?_
      exact e
theorem c_missBy {S : Pic} {sh lo : Nat} (hS : StA w p S) (hO : OKo S) (hp : p = [1] ∨ p = [2]) (hsh : sh < 4) (hlo : lo < 16) : Ct X 0 (d + 4) MX2_missBy [vR 2 0 [7], vR 5 0 p, vI (nI sh), vI (nI lo)] w (qI fun x w' => x = nI (msN S sh lo) ∧ Fr FO w w') := by
  have g0 : p ∉ FO := by rcases hp with rfl | rfl <;> decide
  have g5 : 5 :: p ∉ FO := by rcases hp with rfl | rfl <;> decide
  have g6 : 6 :: p ∉ FO := by rcases hp with rfl | rfl <;> decide
  have g7 : 7 :: p ∉ FO := by rcases hp with rfl | rfl <;> decide
  refine Ct.of (by decide) rfl (Nat.le_of_ble_eq_true rfl) ?_
  show Wq _ _ _ _ 0 [(0, _), (1, _), (2, _), (3, _)] [] _ _
  refine R_aload_n (i := 0) (q := 1) dX2_missBy_0 rfl rfl rfl ?_
  refine R_aload_n (i := 1) (q := 2) dX2_missBy_1 rfl rfl rfl ?_
  refine R_iload_n (i := 2) (q := 3) dX2_missBy_2 rfl rfl rfl ?_
  refine R_iload_n (i := 3) (q := 4) dX2_missBy_3 rfl rfl rfl ?_
  refine R_cV3v (M' := MX2_send) (q := 7) dX2_missBy_4 ml_X2_22 mk_X2_send (Nat.le_of_ble_eq_true rfl) rfl (c_send hS hO hp hsh hlo) ?_
  rintro w1 ⟨hA1, hF1⟩
  refine R_iconst (v := nI 0) (q := 8) dX2_missBy_7 (by decide) rfl ?_
  refine R_istore (q := 10) (loc' := [(4, _), (0, _), (1, _), (2, _), (3, _)]) dX2_missBy_8 (by decide) (by rfl) rfl ?_
  refine R_iconst (v := nI 0) (q := 11) dX2_missBy_10 (by decide) rfl ?_
  refine R_istore (q := 13) (loc' := [(5, _), (4, _), (0, _), (1, _), (2, _), (3, _)]) dX2_missBy_11 (by decide) (by rfl) rfl ?_
  exact l_missBy (hS.fr hF1 g0 g5 g6 g7) hA1 hF1 16 0 (by omega) (by omega)
end OU
end
section
theorem Wq_monoQ {X : Cx} {r d : Nat} {M : Mth} {pc : Nat} {loc : Lo} {stk : List AV} {w : Wd} {Q Q' : Option AV → Wd → Prop} (h : Wq X r d M pc loc stk w Q) (hq : ∀ rv w', Q rv w' → Q' rv w') : Wq X r d M pc loc stk w Q' := by
  intro h1 h2 p e s m args below meth c H locs ls B hP hD hS hl T hT Y
  obtain ⟨t, a1, o, b1, b2, ⟨⟨rv, w', b3, b4, b5⟩, b6⟩, b7⟩ := h h1 h2 p e s m args below meth c H locs ls B hP hD hS hl T hT Y
  exact ⟨t, a1, o, b1, b2, ⟨⟨rv, w', b3, hq rv w' b4, b5⟩, b6⟩, b7⟩
theorem Wq_mono {X : Cx} {r d : Nat} {M : Mth} {pc : Nat} {loc : Lo} {stk : List AV} {w : Wd} {P P' : Int32 → Wd → Prop} (h : Wq X r d M pc loc stk w (qI P)) (hq : ∀ x w', P x w' → P' x w') : Wq X r d M pc loc stk w (qI P') := Wq_monoQ h (fun rv w' h => by obtain ⟨x, e, h⟩ := h; exact ⟨x, e, hq x w' h⟩)
theorem Wq_monoV {X : Cx} {r d : Nat} {M : Mth} {pc : Nat} {loc : Lo} {stk : List AV} {w : Wd} {P P' : Wd → Prop} (h : Wq X r d M pc loc stk w (qV P)) (hq : ∀ w', P w' → P' w') : Wq X r d M pc loc stk w (qV P') := Wq_monoQ h (fun rv w' h => ⟨h.1, hq w' h.2⟩)
/-! acts, slots, what is seen -/
def ActA (w : Wd) (L : List Pic) : Prop := ∃ f, f < 14 ∧ w.1 [3] 1 = nI f ∧ w.1 [3] 2 = nI L.length ∧ L.length ≤ 14 ∧ ∀ j S, L[j]? = some S → StA w [(f + L.length - 1 - j) % 14, 0, 3] S
def SloA (w : Wd) (K : Nat → Option Pic) : Prop := ∃ f, f < 4 ∧ w.1 [4] 1 = nI f ∧ ∀ i, i < 2 → (K i = none ∧ bitN f i = 0) ∨ ∃ S, K i = some S ∧ bitN f i = 1 ∧ StA w [i, 0, 4] S
def SeeA (w : Wd) (n : Nat) (pl vs : Nat → Nat) : Prop := w.1 [5] 2 = nI n ∧ ∀ i, i < n → w.1 [0, 5] i = nI (pl i) ∧ w.1 [1, 5] i = nI (vs i)
def TexA (w : Wd) (n : Nat) (tx : Nat → Int32) : Prop := w.1 [0] 1 = nI n ∧ ∀ i, i < n → w.1 [0, 0] i = tx i
/-- the cells of one of the states that are kept for acts, with their head -/
abbrev FA (k : Nat) : List (List Nat) := [[3], [k, 0, 3], [5, k, 0, 3], [6, k, 0, 3], [7, k, 0, 3]]
abbrev FK (k : Nat) : List (List Nat) := [[4], [k, 0, 4], [5, k, 0, 4], [6, k, 0, 4], [7, k, 0, 4]]
theorem ActA.fr {w w' : Wd} {L : List Pic} {F : List (List Nat)} (h : ActA w L) (hf : Fr F w w') (h3 : [3] ∉ F) (hk : ∀ k, k < 14 → [k, 0, 3] ∉ F ∧ [5, k, 0, 3] ∉ F ∧ [6, k, 0, 3] ∉ F ∧ [7, k, 0, 3] ∉ F) : ActA w' L := by
  obtain ⟨f, h1, h2, h4, h5, h6⟩ := h
  refine ⟨f, h1, by rw [hf.2 _ h3]; exact h2, by rw [hf.2 _ h3]; exact h4, h5, ?_⟩
  intro j S hj
  have hq := hk ((f + L.length - 1 - j) % 14) (Nat.mod_lt _ (by decide))
  exact (h6 j S hj).fr hf hq.1 hq.2.1 hq.2.2.1 hq.2.2.2
theorem SloA.fr {w w' : Wd} {K : Nat → Option Pic} {F : List (List Nat)} (h : SloA w K) (hf : Fr F w w') (h3 : [4] ∉ F) (hk : ∀ k, k < 2 → [k, 0, 4] ∉ F ∧ [5, k, 0, 4] ∉ F ∧ [6, k, 0, 4] ∉ F ∧ [7, k, 0, 4] ∉ F) : SloA w' K := by
  obtain ⟨f, h1, h2, h6⟩ := h
  refine ⟨f, h1, by rw [hf.2 _ h3]; exact h2, ?_⟩
  intro i hi
  have hq := hk i hi
  rcases h6 i hi with h | ⟨S, e1, e2, e3⟩
  · exact Or.inl h
  · exact Or.inr ⟨S, e1, e2, e3.fr hf hq.1 hq.2.1 hq.2.2.1 hq.2.2.2⟩
theorem SeeA.fr {w w' : Wd} {n : Nat} {pl vs : Nat → Nat} {F : List (List Nat)} (h : SeeA w n pl vs) (hf : Fr F w w') (h5 : [5] ∉ F) (h0 : [0, 5] ∉ F) (h1 : [1, 5] ∉ F) : SeeA w' n pl vs := by
  unfold SeeA
  rw [hf.2 _ h5, hf.2 _ h0, hf.2 _ h1]
  exact h
theorem TexA.fr {w w' : Wd} {n : Nat} {tx : Nat → Int32} {F : List (List Nat)} (h : TexA w n tx) (hf : Fr F w w') (h0 : [0] ∉ F) (h00 : [0, 0] ∉ F) : TexA w' n tx := by
  unfold TexA
  rw [hf.2 _ h0, hf.2 _ h00]
  exact h
theorem StA.frA {w w' : Wd} {j k : Nat} {S : Pic} (h : StA w [j, 0, 3] S) (hne : j ≠ k) (hf : Fr (FA k) w w') : StA w' [j, 0, 3] S := h.fr hf (by simp [hne]) (by simp [hne]) (by simp [hne]) (by simp [hne])
section AC
variable {X : Cx} {d : Nat} {w : Wd}
theorem c_aforget : Ct X 0 d MX0_forgetAll [vR 0 0 [3]] w (qV fun w' => w' = uI w [3] 2 (nI 0)) := by
  refine Ct.of (by decide) rfl (Nat.le_of_ble_eq_true rfl) ?_
  show Wq _ _ _ _ 0 [(0, _)] [] _ _
  refine R_aload_n (i := 0) (q := 1) dX0_forgetAll_0 rfl rfl rfl ?_
  refine R_iconst (v := nI 0) (q := 2) dX0_forgetAll_1 (by decide) rfl ?_
  refine R_putI (q := 5) dX0_forgetAll_2 fl_X0_18 rfl rfl ?_
  refine R_rv dX0_forgetAll_5 rfl ?_
  rfl
theorem c_sforget : Ct X 0 d MX4_forgetAll [vR 4 0 [4]] w (qV fun w' => w' = uI w [4] 1 (nI 0)) := by
  refine Ct.of (by decide) rfl (Nat.le_of_ble_eq_true rfl) ?_
  show Wq _ _ _ _ 0 [(0, _)] [] _ _
  refine R_aload_n (i := 0) (q := 1) dX4_forgetAll_0 rfl rfl rfl ?_
  refine R_iconst (v := nI 0) (q := 2) dX4_forgetAll_1 (by decide) rfl ?_
  refine R_putI (q := 5) dX4_forgetAll_2 fl_X4_22 rfl rfl ?_
  refine R_rv dX4_forgetAll_5 rfl ?_
  rfl
theorem c_remember {L : List Pic} {S : Pic} (hA : ActA w L) (hS : StA w [1] S) (hN : pN S ≤ 20) : Ct X 0 (d + 2) MX0_remember [vR 0 0 [3], vR 5 0 [1]] w (qV fun w' => ActA w' (S :: L.take 13) ∧ ∃ k, k < 14 ∧ Fr (FA k) w w') := by
  obtain ⟨f, hf, hfi, hsz, hL, hst⟩ := id hA
  refine Ct.of (by decide) rfl (Nat.le_of_ble_eq_true rfl) ?_
  show Wq _ _ _ _ 0 [(0, _), (1, _)] [] _ _
  refine R_aload_n (i := 0) (q := 1) dX0_remember_0 rfl rfl rfl ?_
  refine R_getI' (q := 4) dX0_remember_1 fl_X0_18 rfl (hsz) rfl ?_
  refine R_bipush (v := nI 14) (q := 6) dX0_remember_4 (by decide) rfl ?_
  refine R_icmp_neN (by omega) (by omega) (tgt := 32) (q := 9) dX0_remember_6 (by decide) rfl (fun c1 => ?_) (fun c1 => ?_)
  · have hk14 : (f + L.length) % 14 < 14 := Nat.mod_lt _ (by decide)
    refine R_aload_n (i := 0) (q := 33) dX0_remember_32 rfl rfl rfl ?_
    refine R_getR (q := 36) dX0_remember_33 fl_X0_11 rfl (by decide) rfl ?_
    refine R_aload_n (i := 0) (q := 37) dX0_remember_36 rfl rfl rfl ?_
    refine R_getI' (q := 40) dX0_remember_37 fl_X0_22 rfl (hfi) rfl ?_
    refine R_aload_n (i := 0) (q := 41) dX0_remember_40 rfl rfl rfl ?_
    refine R_getI' (q := 44) dX0_remember_41 fl_X0_18 rfl (hsz) rfl ?_
    first | refine R_iaddN (q := 45) dX0_remember_44 rfl ?_ | refine R_iadd (q := 45) dX0_remember_44 rfl ?_
    refine R_bipush (v := nI 14) (q := 47) dX0_remember_45 (by decide) rfl ?_
    refine R_iremN (by omega) (by omega) (by omega) (q := 48) dX0_remember_47 rfl ?_
    refine R_aald (q := 49) dX0_remember_48 (rfl) (by omega) (by decide) rfl ?_
    refine R_aload_n (i := 1) (q := 50) dX0_remember_49 rfl rfl rfl ?_
    refine R_cV1v (M' := MX5_copy) (q := 53) dX0_remember_50 ml_X0_25 mk_X5_copy (Nat.le_of_ble_eq_true rfl) rfl (c_copy (p := [(f + L.length) % 14, 0, 3]) hS hN (by simp) (by simp)) ?_
    rintro w1 ⟨hS1, hF1⟩
    have hsz1 : w1.1 [3] 2 = nI L.length := by rw [hF1.2 _ (by simp)]; exact hsz
    refine R_aload_n (i := 0) (q := 54) dX0_remember_53 rfl rfl rfl ?_
    refine R_dup (q := 55) dX0_remember_54 rfl rfl ?_
    refine R_getI' (q := 58) dX0_remember_55 fl_X0_18 rfl (hsz1) rfl ?_
    refine R_iconst (v := nI 1) (q := 59) dX0_remember_58 (by decide) rfl ?_
    first | refine R_iaddN (q := 60) dX0_remember_59 rfl ?_ | refine R_iadd (q := 60) dX0_remember_59 rfl ?_
    refine R_putI (q := 63) dX0_remember_60 fl_X0_18 rfl rfl ?_
    refine R_rv dX0_remember_63 rfl ?_
    have hFk : Fr (FA ((f + L.length) % 14)) w (uI w1 [3] 2 (nI (L.length + 1))) := (hF1.up (by simp)).tr (Fr.i (by simp))
    refine ⟨⟨f, hf, ?_, ?_, by simp; omega, ?_⟩, _, hk14, hFk⟩
    · rw [uI_ne (by decide), hF1.2 _ (by simp)]
      exact hfi
    · rw [uI_same]
      simp [List.length_take]
      congr 1
      omega
    · have htk : (L.take 13) = L := List.take_of_length_le (by omega)
      intro j T hj
      rw [htk] at hj ⊢
      simp only [List.length_cons]
      have hFs : Fr [[3]] w1 (uI w1 [3] 2 (nI (L.length + 1))) := Fr.i (by simp)
      cases j with
      | zero =>
        cases hj
        rw [show (f + (L.length + 1) - 1 - 0) % 14 = (f + L.length) % 14 by congr 1]
        exact hS1.fr hFs (by simp) (by simp) (by simp) (by simp)
      | succ j =>
        rw [List.getElem?_cons_succ] at hj
        have hjl : j < L.length := (List.getElem?_eq_some_iff.mp hj).1
        have h9 := hst j T hj
        rw [show (f + (L.length + 1) - 1 - (j + 1)) % 14 = (f + L.length - 1 - j) % 14 by congr 1; omega]
        have hne : (f + L.length - 1 - j) % 14 ≠ (f + L.length) % 14 := by omega
        exact h9.frA hne hFk
  · have hm14 : (f + 1) % 14 < 14 := Nat.mod_lt _ (by decide)
    rw [c1] at hsz
    refine R_aload_n (i := 0) (q := 10) dX0_remember_9 rfl rfl rfl ?_
    refine R_aload_n (i := 0) (q := 11) dX0_remember_10 rfl rfl rfl ?_
    refine R_getI' (q := 14) dX0_remember_11 fl_X0_22 rfl (hfi) rfl ?_
    refine R_iconst (v := nI 1) (q := 15) dX0_remember_14 (by decide) rfl ?_
    first | refine R_iaddN (q := 16) dX0_remember_15 rfl ?_ | refine R_iadd (q := 16) dX0_remember_15 rfl ?_
    refine R_bipush (v := nI 14) (q := 18) dX0_remember_16 (by decide) rfl ?_
    refine R_iremN (by omega) (by omega) (by omega) (q := 19) dX0_remember_18 rfl ?_
    refine R_putI (q := 22) dX0_remember_19 fl_X0_22 rfl rfl ?_
    refine R_aload_n (i := 0) (q := 23) dX0_remember_22 rfl rfl rfl ?_
    refine R_dup (q := 24) dX0_remember_23 rfl rfl ?_
    refine R_getI' (q := 27) dX0_remember_24 fl_X0_18 rfl ((uI_ne (by decide)).trans hsz) rfl ?_
    refine R_iconst (v := nI 1) (q := 28) dX0_remember_27 (by decide) rfl ?_
    refine R_isubN (by decide) (q := 29) dX0_remember_28 rfl ?_
    refine R_putI (q := 32) dX0_remember_29 fl_X0_18 rfl rfl ?_
    refine R_aload_n (i := 0) (q := 33) dX0_remember_32 rfl rfl rfl ?_
    refine R_getR (q := 36) dX0_remember_33 fl_X0_11 rfl (by decide) rfl ?_
    refine R_aload_n (i := 0) (q := 37) dX0_remember_36 rfl rfl rfl ?_
    refine R_getI' (q := 40) dX0_remember_37 fl_X0_22 rfl ((uI_ne (by decide)).trans (uI_same _ _ _ _)) rfl ?_
    refine R_aload_n (i := 0) (q := 41) dX0_remember_40 rfl rfl rfl ?_
    refine R_getI' (q := 44) dX0_remember_41 fl_X0_18 rfl (uI_same _ _ _ _) rfl ?_
    have hk14 : ((f + 1) % 14 + 13) % 14 < 14 := Nat.mod_lt _ (by decide)
    first | refine R_iaddN (q := 45) dX0_remember_44 rfl ?_ | refine R_iadd (q := 45) dX0_remember_44 rfl ?_
    refine R_bipush (v := nI 14) (q := 47) dX0_remember_45 (by decide) rfl ?_
    refine R_iremN (by omega) (by omega) (by omega) (q := 48) dX0_remember_47 rfl ?_
    refine R_aald (q := 49) dX0_remember_48 (rfl) (by omega) (by decide) rfl ?_
    refine R_aload_n (i := 1) (q := 50) dX0_remember_49 rfl rfl rfl ?_
    have hS0 : StA (uI (uI w [3] 1 (nI ((f + 1) % 14))) [3] 2 (nI (14 - 1))) [1] S := hS.fr (F := [[3]]) ((Fr.i (by simp)).tr (Fr.i (by simp))) (by simp) (by simp) (by simp) (by simp)
    refine R_cV1v (M' := MX5_copy) (q := 53) dX0_remember_50 ml_X0_25 mk_X5_copy (Nat.le_of_ble_eq_true rfl) rfl (c_copy (p := [((f + 1) % 14 + 13) % 14, 0, 3]) hS0 hN (by simp) (by simp)) ?_
    rintro w1 ⟨hS1, hF1⟩
    have hF0 : Fr [[3]] w (uI (uI w [3] 1 (nI ((f + 1) % 14))) [3] 2 (nI (14 - 1))) := (Fr.i (by simp)).tr (Fr.i (by simp))
    have hsz1 : w1.1 [3] 2 = nI 13 := by rw [hF1.2 _ (by simp)]; exact uI_same _ _ _ _
    refine R_aload_n (i := 0) (q := 54) dX0_remember_53 rfl rfl rfl ?_
    refine R_dup (q := 55) dX0_remember_54 rfl rfl ?_
    refine R_getI' (q := 58) dX0_remember_55 fl_X0_18 rfl (hsz1) rfl ?_
    refine R_iconst (v := nI 1) (q := 59) dX0_remember_58 (by decide) rfl ?_
    first | refine R_iaddN (q := 60) dX0_remember_59 rfl ?_ | refine R_iadd (q := 60) dX0_remember_59 rfl ?_
    refine R_putI (q := 63) dX0_remember_60 fl_X0_18 rfl rfl ?_
    refine R_rv dX0_remember_63 rfl ?_
    have hFk : Fr (FA (((f + 1) % 14 + 13) % 14)) w (uI w1 [3] 2 (nI (13 + 1))) := ((hF0.up (by simp)).tr (hF1.up (by simp))).tr (Fr.i (by simp))
    have htl : (L.take 13).length = 13 := by rw [List.length_take]; omega
    refine ⟨⟨(f + 1) % 14, hm14, ?_, ?_, by rw [List.length_cons, htl]; decide, ?_⟩, _, hk14, hFk⟩
    · rw [uI_ne (by decide), hF1.2 _ (by simp)]
      exact (uI_ne (by decide)).trans (uI_same _ _ _ _)
    · rw [uI_same, List.length_cons, htl]
    · intro j T hj
      simp only [List.length_cons, htl]
      have hFs : Fr [[3]] w1 (uI w1 [3] 2 (nI (13 + 1))) := Fr.i (by simp)
      cases j with
      | zero =>
        cases hj
        rw [show ((f + 1) % 14 + (13 + 1) - 1 - 0) % 14 = ((f + 1) % 14 + 13) % 14 by congr 1]
        exact hS1.fr hFs (by simp) (by simp) (by simp) (by simp)
      | succ j =>
        rw [List.getElem?_cons_succ] at hj
        have hjl : j < 13 := by
          have := (List.getElem?_eq_some_iff.mp hj).1
          omega
        rw [List.getElem?_take_of_lt hjl] at hj
        have h9 := hst j T hj
        rw [show ((f + 1) % 14 + (13 + 1) - 1 - (j + 1)) % 14 = (f + L.length - 1 - j) % 14 by rw [c1]; omega]
        have hne : (f + L.length - 1 - j) % 14 ≠ ((f + 1) % 14 + 13) % 14 := by rw [c1]; omega
        exact h9.frA hne hFk
theorem c_takeBack {L : List Pic} (hA : ActA w L) (hOK : ∀ S, S ∈ L → pN S ≤ 20) : Ct X 0 (d + 2) MX0_takeBackInto [vR 0 0 [3], vR 5 0 [1]] w (qI fun z w' => (L = [] ∧ z = 0 ∧ w' = w) ∨ ∃ S L', L = S :: L' ∧ z = 1 ∧ StA w' [1] S ∧ ActA w' L' ∧ Fr [[3], [1], [5, 1], [6, 1], [7, 1]] w w') := by
  obtain ⟨f, hf, hfi, hsz, hL, hst⟩ := id hA
  refine Ct.of (by decide) rfl (Nat.le_of_ble_eq_true rfl) ?_
  show Wq _ _ _ _ 0 [(0, _), (1, _)] [] _ _
  refine R_aload_n (i := 0) (q := 1) dX0_takeBackInto_0 rfl rfl rfl ?_
  refine R_getI' (q := 4) dX0_takeBackInto_1 fl_X0_18 rfl (hsz) rfl ?_
  refine R_if_neN (by omega) (tgt := 9) (q := 7) dX0_takeBackInto_4 (by decide) rfl (fun c1 => ?_) (fun c1 => ?_)
  · cases L with
    | nil => exact absurd rfl c1
    | cons S L' =>
      simp only [List.length_cons] at hsz hL hst c1
      refine R_aload_n (i := 0) (q := 10) dX0_takeBackInto_9 rfl rfl rfl ?_
      refine R_dup (q := 11) dX0_takeBackInto_10 rfl rfl ?_
      refine R_getI' (q := 14) dX0_takeBackInto_11 fl_X0_18 rfl (hsz) rfl ?_
      refine R_iconst (v := nI 1) (q := 15) dX0_takeBackInto_14 (by decide) rfl ?_
      refine R_isubN (by omega) (q := 16) dX0_takeBackInto_15 rfl ?_
      rw [Nat.add_sub_cancel]
      refine R_putI (q := 19) dX0_takeBackInto_16 fl_X0_18 rfl rfl ?_
      refine R_aload_n (i := 1) (q := 20) dX0_takeBackInto_19 rfl rfl rfl ?_
      refine R_aload_n (i := 0) (q := 21) dX0_takeBackInto_20 rfl rfl rfl ?_
      refine R_getR (q := 24) dX0_takeBackInto_21 fl_X0_11 rfl (by decide) rfl ?_
      refine R_aload_n (i := 0) (q := 25) dX0_takeBackInto_24 rfl rfl rfl ?_
      refine R_getI' (q := 28) dX0_takeBackInto_25 fl_X0_22 rfl ((uI_ne (by decide)).trans hfi) rfl ?_
      refine R_aload_n (i := 0) (q := 29) dX0_takeBackInto_28 rfl rfl rfl ?_
      refine R_getI' (q := 32) dX0_takeBackInto_29 fl_X0_18 rfl (uI_same _ _ _ _) rfl ?_
      have hk14 : (f + L'.length) % 14 < 14 := Nat.mod_lt _ (by decide)
      first | refine R_iaddN (q := 33) dX0_takeBackInto_32 rfl ?_ | refine R_iadd (q := 33) dX0_takeBackInto_32 rfl ?_
      refine R_bipush (v := nI 14) (q := 35) dX0_takeBackInto_33 (by decide) rfl ?_
      refine R_iremN (by omega) (by omega) (by omega) (q := 36) dX0_takeBackInto_35 rfl ?_
      refine R_aald (q := 37) dX0_takeBackInto_36 (rfl) (by omega) (by decide) rfl ?_
      have h9 := hst 0 S rfl
      rw [show (f + (L'.length + 1) - 1 - 0) % 14 = (f + L'.length) % 14 by congr 1] at h9
      refine R_cV1v (M' := MX5_copy) (q := 40) dX0_takeBackInto_37 ml_X0_25 mk_X5_copy (Nat.le_of_ble_eq_true rfl) rfl (c_copy (q := [(f + L'.length) % 14, 0, 3]) (h9.fr (F := [[3]]) (Fr.i (by simp)) (by simp) (by simp) (by simp) (by simp)) (hOK S List.mem_cons_self) (by simp) (by simp)) ?_
      rintro w1 ⟨hS1, hF1⟩
      refine R_iconst (v := nI 1) (q := 41) dX0_takeBackInto_40 (by decide) rfl ?_
      refine R_rz dX0_takeBackInto_41 rfl (by decide) ?_
      have hF : Fr [[3], [1], [5, 1], [6, 1], [7, 1]] w w1 := (Fr.i (by simp)).tr (hF1.up (by simp))
      refine Or.inr ⟨S, L', rfl, rfl, hS1, ⟨f, hf, ?_, ?_, by omega, ?_⟩, hF⟩
      · rw [hF1.2 _ (by simp)]
        exact (uI_ne (by decide)).trans hfi
      · rw [hF1.2 _ (by simp)]
        exact uI_same _ _ _ _
      · intro j T hj
        have hjl : j < L'.length := (List.getElem?_eq_some_iff.mp hj).1
        have h8 := hst (j + 1) T (by rw [List.getElem?_cons_succ]; exact hj)
        rw [show (f + (L'.length + 1) - 1 - (j + 1)) % 14 = (f + L'.length - 1 - j) % 14 by congr 1; omega] at h8
        exact h8.fr hF (by simp) (by simp) (by simp) (by simp)
  · refine R_iconst (v := nI 0) (q := 8) dX0_takeBackInto_7 (by decide) rfl ?_
    refine R_rz dX0_takeBackInto_8 rfl (by decide) ?_
    exact Or.inl ⟨List.length_eq_zero_iff.mp c1, rfl, rfl⟩
theorem sl_or : ∀ f, f < 4 → ∀ i, i < 2 → ∃ g, g < 4 ∧ (nI f ||| (nI 1 <<< (nI i &&& 31))) = nI g ∧ bitN g i = 1 ∧ ∀ j, j < 2 → j ≠ i → bitN g j = bitN f j := by
  have h : ∀ f, f < 4 → ∀ i, i < 2 → (nI f ||| (nI 1 <<< (nI i &&& 31))) = nI (f ||| 2 ^ i) ∧ (f ||| 2 ^ i) < 4 ∧ bitN (f ||| 2 ^ i) i = 1 ∧ ∀ j, j < 2 → j ≠ i → bitN (f ||| 2 ^ i) j = bitN f j := by decide
  intro f hf i hi
  have h1 := h f hf i hi
  exact ⟨f ||| 2 ^ i, h1.2.1, h1.1, h1.2.2.1, h1.2.2.2⟩
theorem c_sput {K : Nat → Option Pic} {S : Pic} {i : Nat} (hK : SloA w K) (hS : StA w [1] S) (hN : pN S ≤ 20) (hi : i < 2) : Ct X 0 (d + 2) MX4_put [vR 4 0 [4], vI (nI i), vR 5 0 [1]] w (qV fun w' => SloA w' (fnU K i (some S)) ∧ Fr (FK i) w w') := by
  obtain ⟨f, hf, hfi, hst⟩ := id hK
  refine Ct.of (by decide) rfl (Nat.le_of_ble_eq_true rfl) ?_
  show Wq _ _ _ _ 0 [(0, _), (1, _), (2, _)] [] _ _
  refine R_aload_n (i := 0) (q := 1) dX4_put_0 rfl rfl rfl ?_
  refine R_getR (q := 4) dX4_put_1 fl_X4_11 rfl (by decide) rfl ?_
  refine R_iload_n (i := 1) (q := 5) dX4_put_4 rfl rfl rfl ?_
  refine R_aald (q := 6) dX4_put_5 (rfl) (by omega) (by decide) rfl ?_
  refine R_aload_n (i := 2) (q := 7) dX4_put_6 rfl rfl rfl ?_
  refine R_cV1v (M' := MX5_copy) (q := 10) dX4_put_7 ml_X4_18 mk_X5_copy (Nat.le_of_ble_eq_true rfl) rfl (c_copy (p := [i, 0, 4]) hS hN (by simp) (by simp)) ?_
  rintro w1 ⟨hS1, hF1⟩
  have hfi1 : w1.1 [4] 1 = nI f := by rw [hF1.2 _ (by simp)]; exact hfi
  refine R_aload_n (i := 0) (q := 11) dX4_put_10 rfl rfl rfl ?_
  refine R_dup (q := 12) dX4_put_11 rfl rfl ?_
  refine R_getI' (q := 15) dX4_put_12 fl_X4_22 rfl (hfi1) rfl ?_
  refine R_iconst (v := nI 1) (q := 16) dX4_put_15 (by decide) rfl ?_
  refine R_iload_n (i := 1) (q := 17) dX4_put_16 rfl rfl rfl ?_
  refine R_ishl (q := 18) dX4_put_17 rfl ?_
  refine R_ior (q := 19) dX4_put_18 rfl ?_
  obtain ⟨g, hg, eg, hg1, hg2⟩ := sl_or f hf i hi
  rw [eg]
  refine R_putI (q := 22) dX4_put_19 fl_X4_22 rfl rfl ?_
  refine R_rv dX4_put_22 rfl ?_
  have hF2 : Fr [[4]] w1 (uI w1 [4] 1 (nI g)) := Fr.i (by simp)
  have hF : Fr (FK i) w (uI w1 [4] 1 (nI g)) := (hF1.up (by simp)).tr (hF2.up (by simp))
  refine ⟨⟨g, hg, uI_same _ _ _ _, ?_⟩, hF⟩
  intro j hj
  by_cases h : j = i
  · subst h
    exact Or.inr ⟨S, by simp [fnU], hg1, hS1.fr hF2 (by simp) (by simp) (by simp) (by simp)⟩
  · rw [hg2 j hj h]
    simp only [fnU, if_neg h]
    rcases hst j hj with h1 | ⟨T, e1, e2, e3⟩
    · exact Or.inl h1
    · exact Or.inr ⟨T, e1, e2, e3.fr hF (by simp [h]) (by simp [h]) (by simp [h]) (by simp [h])⟩
theorem sl_shr : ∀ f, f < 4 → ∀ i, i < 2 → (nI f >>> (nI i &&& 31)) &&& nI 1 = nI (bitN f i) := by decide
theorem c_stake {K : Nat → Option Pic} {i : Nat} (hK : SloA w K) (hN : ∀ S, K i = some S → pN S ≤ 20) (hi : i < 2) : Ct X 0 (d + 2) MX4_takeInto [vR 4 0 [4], vI (nI i), vR 5 0 [1]] w (qI fun z w' => (K i = none ∧ z = 0 ∧ w' = w) ∨ ∃ S, K i = some S ∧ z = 1 ∧ StA w' [1] S ∧ Fr [[1], [5, 1], [6, 1], [7, 1]] w w') := by
  obtain ⟨f, hf, hfi, hst⟩ := id hK
  have hb := bitN_lt f i
  refine Ct.of (by decide) rfl (Nat.le_of_ble_eq_true rfl) ?_
  show Wq _ _ _ _ 0 [(0, _), (1, _), (2, _)] [] _ _
  refine R_aload_n (i := 0) (q := 1) dX4_takeInto_0 rfl rfl rfl ?_
  refine R_getI' (q := 4) dX4_takeInto_1 fl_X4_22 rfl (hfi) rfl ?_
  refine R_iload_n (i := 1) (q := 5) dX4_takeInto_4 rfl rfl rfl ?_
  refine R_ishr (q := 6) dX4_takeInto_5 rfl ?_
  refine R_iconst (v := nI 1) (q := 7) dX4_takeInto_6 (by decide) rfl ?_
  refine R_iand (q := 8) dX4_takeInto_7 rfl ?_
  rw [sl_shr f hf i hi]
  refine R_if_neN (by omega) (tgt := 13) (q := 11) dX4_takeInto_8 (by decide) rfl (fun c1 => ?_) (fun c1 => ?_)
  · rcases hst i hi with ⟨_, h1⟩ | ⟨T, e1, e2, e3⟩
    · exact absurd h1 c1
    · refine R_aload_n (i := 2) (q := 14) dX4_takeInto_13 rfl rfl rfl ?_
      refine R_aload_n (i := 0) (q := 15) dX4_takeInto_14 rfl rfl rfl ?_
      refine R_getR (q := 18) dX4_takeInto_15 fl_X4_11 rfl (by decide) rfl ?_
      refine R_iload_n (i := 1) (q := 19) dX4_takeInto_18 rfl rfl rfl ?_
      refine R_aald (q := 20) dX4_takeInto_19 (rfl) (by omega) (by decide) rfl ?_
      refine R_cV1v (M' := MX5_copy) (q := 23) dX4_takeInto_20 ml_X4_18 mk_X5_copy (Nat.le_of_ble_eq_true rfl) rfl (c_copy (q := [i, 0, 4]) e3 (hN T e1) (by simp) (by simp)) ?_
      rintro w1 ⟨hS1, hF1⟩
      refine R_iconst (v := nI 1) (q := 24) dX4_takeInto_23 (by decide) rfl ?_
      refine R_rz dX4_takeInto_24 rfl (by decide) ?_
      exact Or.inr ⟨T, e1, rfl, hS1, hF1⟩
  · rcases hst i hi with ⟨h0, h1⟩ | ⟨T, e1, e2, e3⟩
    · refine R_iconst (v := nI 0) (q := 12) dX4_takeInto_11 (by decide) rfl ?_
      refine R_rz dX4_takeInto_12 rfl (by decide) ?_
      exact Or.inl ⟨h0, rfl, rfl⟩
    · omega
theorem c_sadd {n a b : Nat} {pl vs : Nat → Nat} (hA : SeeA w n pl vs) (hn : n ≤ 6) : Ct X 0 d MX3_add [vR 3 0 [5], vI (nI a), vI (nI b)] w (qI fun z w' => (n = 6 ∧ z = 0 ∧ w' = w) ∨ (n < 6 ∧ z = 1 ∧ SeeA w' (n + 1) (fnU pl n a) (fnU vs n b) ∧ Fr [[5], [0, 5], [1, 5]] w w')) := by
  obtain ⟨hsz, hpv⟩ := id hA
  refine Ct.of (by decide) rfl (Nat.le_of_ble_eq_true rfl) ?_
  show Wq _ _ _ _ 0 [(0, _), (1, _), (2, _)] [] _ _
  refine R_aload_n (i := 0) (q := 1) dX3_add_0 rfl rfl rfl ?_
  refine R_getI' (q := 4) dX3_add_1 fl_X3_18 rfl (hsz) rfl ?_
  refine R_bipush (v := nI 6) (q := 6) dX3_add_4 (by decide) rfl ?_
  refine R_icmp_ltN (by omega) (by omega) (tgt := 11) (q := 9) dX3_add_6 (by decide) rfl (fun c1 => ?_) (fun c1 => ?_)
  · refine R_aload_n (i := 0) (q := 12) dX3_add_11 rfl rfl rfl ?_
    refine R_getR (q := 15) dX3_add_12 fl_X3_9 rfl (by decide) rfl ?_
    refine R_aload_n (i := 0) (q := 16) dX3_add_15 rfl rfl rfl ?_
    refine R_getI' (q := 19) dX3_add_16 fl_X3_18 rfl (hsz) rfl ?_
    refine R_iload_n (i := 1) (q := 20) dX3_add_19 rfl rfl rfl ?_
    refine R_iast (q := 21) dX3_add_20 (rfl) (by omega) (by decide) rfl ?_
    refine R_aload_n (i := 0) (q := 22) dX3_add_21 rfl rfl rfl ?_
    refine R_getR (q := 25) dX3_add_22 fl_X3_15 rfl (by decide) rfl ?_
    refine R_aload_n (i := 0) (q := 26) dX3_add_25 rfl rfl rfl ?_
    refine R_getI' (q := 29) dX3_add_26 fl_X3_18 rfl ((uI_nep (by decide)).trans hsz) rfl ?_
    refine R_iload_n (i := 2) (q := 30) dX3_add_29 rfl rfl rfl ?_
    refine R_iast (q := 31) dX3_add_30 (rfl) (by omega) (by decide) rfl ?_
    refine R_aload_n (i := 0) (q := 32) dX3_add_31 rfl rfl rfl ?_
    refine R_dup (q := 33) dX3_add_32 rfl rfl ?_
    refine R_getI' (q := 36) dX3_add_33 fl_X3_18 rfl ((uI_nep (by decide)).trans ((uI_nep (by decide)).trans hsz)) rfl ?_
    refine R_iconst (v := nI 1) (q := 37) dX3_add_36 (by decide) rfl ?_
    first | refine R_iaddN (q := 38) dX3_add_37 rfl ?_ | refine R_iadd (q := 38) dX3_add_37 rfl ?_
    refine R_putI (q := 41) dX3_add_38 fl_X3_18 rfl rfl ?_
    refine R_iconst (v := nI 1) (q := 42) dX3_add_41 (by decide) rfl ?_
    refine R_rz dX3_add_42 rfl (by decide) ?_
    refine Or.inr ⟨c1, rfl, ⟨uI_same _ _ _ _, ?_⟩, ((Fr.i (by simp)).tr (Fr.i (by simp))).tr (Fr.i (by simp))⟩
    intro i hi
    by_cases h : i = n
    · subst h
      simp [uI, uA, upd, fnU]
    · have h9 := hpv i (by omega)
      simp [uI, uA, upd, fnU, h, h9.1, h9.2]
  · refine R_iconst (v := nI 0) (q := 10) dX3_add_9 (by decide) rfl ?_
    refine R_rz dX3_add_10 rfl (by decide) ?_
    exact Or.inl ⟨by omega, rfl, rfl⟩
theorem l_isSo {n : Nat} {pl vs D : Nat → Nat} (hA : SeeA w n pl vs) (hn : n ≤ 6) (hb : ∀ i, i < n → pl i < 16 ∧ vs i < 20) (hD : ∀ k, k < 16 → w.1 [1, 7] k = nI (D k)) (hD2 : ∀ k, D k ≤ 20) : ∀ (f k : Nat), n ≤ k + f → k ≤ n → (∀ i, i < k → D (pl i) = vs i) → Wq X 0 d MX3_isSo 2 [(2, vI (nI k)), (0, vR 3 0 [5]), (1, vR 2 0 [7])] [] w (qI fun z w' => z = bI (∀ i, i < n → D (pl i) = vs i) ∧ w' = w) := by
  obtain ⟨hsz, hpv⟩ := id hA
  intro f
  induction f with
  | zero =>
    intro k h1 h2 h3
    refine R_iload_n (i := 2) (q := 3) dX3_isSo_2 rfl rfl rfl ?_
    refine R_aload_n (i := 0) (q := 4) dX3_isSo_3 rfl rfl rfl ?_
    refine R_getI' (q := 7) dX3_isSo_4 fl_X3_18 rfl (hsz) rfl ?_
    refine R_icmp_geN (by omega) (by omega) (tgt := 38) (q := 10) dX3_isSo_7 (by decide) rfl (fun c1 => ?_) (fun c1 => ?_)
    · refine R_iconst (v := nI 1) (q := 39) dX3_isSo_38 (by decide) rfl ?_
      refine R_rz dX3_isSo_39 rfl (by decide) ?_
      exact ⟨(bI_t (fun i hi => h3 i (by omega))).symm, rfl⟩
    · omega
  | succ f ih =>
    intro k h1 h2 h3
    refine R_iload_n (i := 2) (q := 3) dX3_isSo_2 rfl rfl rfl ?_
    refine R_aload_n (i := 0) (q := 4) dX3_isSo_3 rfl rfl rfl ?_
    refine R_getI' (q := 7) dX3_isSo_4 fl_X3_18 rfl (hsz) rfl ?_
    refine R_icmp_geN (by omega) (by omega) (tgt := 38) (q := 10) dX3_isSo_7 (by decide) rfl (fun c1 => ?_) (fun c1 => ?_)
    · refine R_iconst (v := nI 1) (q := 39) dX3_isSo_38 (by decide) rfl ?_
      refine R_rz dX3_isSo_39 rfl (by decide) ?_
      exact ⟨(bI_t (fun i hi => h3 i (by omega))).symm, rfl⟩
    · have hbk := hb k c1
      have hdk := hD2 (pl k)
      refine R_aload_n (i := 1) (q := 11) dX3_isSo_10 rfl rfl rfl ?_
      refine R_getR (q := 14) dX3_isSo_11 fl_X3_22 rfl (by decide) rfl ?_
      refine R_aload_n (i := 0) (q := 15) dX3_isSo_14 rfl rfl rfl ?_
      refine R_getR (q := 18) dX3_isSo_15 fl_X3_9 rfl (by decide) rfl ?_
      refine R_iload_n (i := 2) (q := 19) dX3_isSo_18 rfl rfl rfl ?_
      refine R_iald' (q := 20) dX3_isSo_19 (rfl) (by omega) (by decide) ((hpv k c1).1) rfl ?_
      refine R_iald' (q := 21) dX3_isSo_20 (rfl) (by omega) (by decide) (hD (pl k) hbk.1) rfl ?_
      refine R_aload_n (i := 0) (q := 22) dX3_isSo_21 rfl rfl rfl ?_
      refine R_getR (q := 25) dX3_isSo_22 fl_X3_15 rfl (by decide) rfl ?_
      refine R_iload_n (i := 2) (q := 26) dX3_isSo_25 rfl rfl rfl ?_
      refine R_iald' (q := 27) dX3_isSo_26 (rfl) (by omega) (by decide) ((hpv k c1).2) rfl ?_
      refine R_icmp_eqN (by omega) (by omega) (tgt := 32) (q := 30) dX3_isSo_27 (by decide) rfl (fun c2 => ?_) (fun c2 => ?_)
      · first | refine R_iincN (q := 35) (loc' := [(2, _), (0, _), (1, _)]) dX3_isSo_32 (by rfl) (by decide) (by rfl) rfl ?_ | refine R_iinc (q := 35) (loc' := [(2, _), (0, _), (1, _)]) dX3_isSo_32 (by rfl) (by rfl) (by decide) (by rfl) rfl ?_
        refine R_goto (q := 2) dX3_isSo_35 (by decide) ?_
        refine ih (k + 1) (by omega) (by omega) ?_
        intro i hi
        by_cases h : i = k
        · rw [h]; exact c2
        · exact h3 i (by omega)
      · refine R_iconst (v := nI 0) (q := 31) dX3_isSo_30 (by decide) rfl ?_
        refine R_rz dX3_isSo_31 rfl (by decide) ?_
        exact ⟨(bI_f (fun h => c2 (h k c1))).symm, rfl⟩
theorem c_isSo {n : Nat} {pl vs D : Nat → Nat} (hA : SeeA w n pl vs) (hn : n ≤ 6) (hb : ∀ i, i < n → pl i < 16 ∧ vs i < 20) (hD : ∀ k, k < 16 → w.1 [1, 7] k = nI (D k)) (hD2 : ∀ k, D k ≤ 20) : Ct X 0 d MX3_isSo [vR 3 0 [5], vR 2 0 [7]] w (qI fun z w' => z = bI (∀ i, i < n → D (pl i) = vs i) ∧ w' = w) := by
  refine Ct.of (by decide) rfl (Nat.le_of_ble_eq_true rfl) ?_
  show Wq _ _ _ _ 0 [(0, _), (1, _)] [] _ _
  refine R_iconst (v := nI 0) (q := 1) dX3_isSo_0 (by decide) rfl ?_
  refine R_istore_n (i := 2) (q := 2) (loc' := [(2, _), (0, _), (1, _)]) dX3_isSo_1 rfl (by decide) (by rfl) rfl ?_
  exact l_isSo hA hn hb hD hD2 n 0 (by omega) (by omega) (fun i hi => absurd hi (Nat.not_lt_zero i))
end AC
end
section
/-! the whole state, as both sides hold it: letters, the picture, acts, slots, what is seen, the seed -/
abbrev Ab : Type := Nat × (Nat → Int32) × Pic × List Pic × (Nat → Option Pic) × Nat × (Nat → Nat) × (Nat → Nat) × Int64
abbrev aN (A : Ab) : Nat := A.1
abbrev aX (A : Ab) : Nat → Int32 := A.2.1
abbrev aP (A : Ab) : Pic := A.2.2.1
abbrev aA (A : Ab) : List Pic := A.2.2.2.1
abbrev aK (A : Ab) : Nat → Option Pic := A.2.2.2.2.1
abbrev aM (A : Ab) : Nat := A.2.2.2.2.2.1
abbrev aL (A : Ab) : Nat → Nat := A.2.2.2.2.2.2.1
abbrev aV (A : Ab) : Nat → Nat := A.2.2.2.2.2.2.2.1
abbrev aZ (A : Ab) : Int64 := A.2.2.2.2.2.2.2.2
def dm (S T : Pic) : Prop := pR S = pR T ∧ pC S = pC T ∧ pN S = pN T
def AOK (A : Ab) : Prop := aN A ≤ 70 ∧ OKS (aP A) ∧ (aA A).length ≤ 14 ∧ (∀ S, S ∈ aA A → OKS S ∧ dm S (aP A)) ∧ (∀ i S, aK A i = some S → OKS S ∧ dm S (aP A)) ∧ aM A ≤ 6 ∧ ∀ i, i < aM A → aL A i < 16 ∧ aV A i < 20
def ClsR (w : Wd) (A : Ab) : Prop := TexA w (aN A) (aX A) ∧ StA w [1] (aP A) ∧ ActA w (aA A) ∧ SloA w (aK A) ∧ SeeA w (aM A) (aL A) (aV A) ∧ w.2 [] = aZ A
/-- cells that hold nothing that lasts -/
abbrev FSc : List (List Nat) := [[2], [5, 2], [6, 2], [7, 2], [0, 6], [1, 6], [2, 6], [3, 6], [7], [1, 7], [0, 0, 7], [1, 0, 7], [2, 0, 7], [3, 0, 7], [8]]
theorem ClsR.sc {w w' : Wd} {A : Ab} (h : ClsR w A) (hf : Fr FSc w w') : ClsR w' A := by
  obtain ⟨h1, h2, h3, h4, h5, h6⟩ := h
  refine ⟨h1.fr hf (by decide) (by decide), h2.fr hf (by decide) (by decide) (by decide) (by decide), h3.fr hf (by decide) ?_, h4.fr hf (by decide) ?_, h5.fr hf (by decide) (by decide) (by decide), by rw [hf.1]; exact h6⟩
  · intro k _
    refine ⟨?_, ?_, ?_, ?_⟩ <;> simp
  · intro k _
    refine ⟨?_, ?_, ?_, ?_⟩ <;> simp
theorem inN_out {x : Int32} {n : Nat} (hn : n < 2 ^ 31) (h : ¬ inN x n) : x.toInt < 0 ∨ (n : Int) ≤ x.toInt := by
  by_cases h0 : x < 0
  · left
    rw [Int32.lt_iff_toInt_lt] at h0
    exact h0
  · right
    by_cases h1 : nI n ≤ x
    · rw [Int32.le_iff_toInt_le, nI_toInt hn] at h1
      exact h1
    · exact absurd ⟨h0, h1⟩ h
/-! what is asked -/
def sdB (S : Pic) : Nat := sd (pro S) (pN S) + sd (pco S) (pN S)
def bcB (S : Pic) (a : Nat) (z : Int32 × Nat) : Nat → Int32 × Nat
  | 0 => z
  | k + 1 => if sdB (swP S a (a + 1 + k)) < (bcB S a z k).2 then (nI (100 * a + (a + 1 + k)), sdB (swP S a (a + 1 + k))) else bcB S a z k
def bcA (S : Pic) : Nat → Int32 × Nat
  | 0 => (-9, sdB S)
  | a + 1 => bcB S a (bcA S a) (pN S - (a + 1))
def gmN (S : Pic) (v : Nat) : Nat → Nat
  | 0 => 0
  | k + 1 => if gmN S v k < msN S v (2 ^ k) then msN S v (2 ^ k) else gmN S v k
def bsF (S : Pic) : Nat → Nat × Nat
  | 0 => (0, gmN S 0 4)
  | v + 1 => if gmN S (v + 1) 4 < (bsF S v).2 then (v + 1, gmN S (v + 1) 4) else bsF S v
def bdF (f : Nat → Bool) : Nat → Nat → Int32
  | 0, _ => -9
  | k + 1, b => if f b then nI b else bdF f k (b + 1)
def bdI (S : Pic) : Int32 := bdF (fun b => decide (pN S ≤ cw (pC S) b (pR S))) 6 0
/-- what about() answers -/
def abI (A : Ab) (k : Nat) : Int32 := match k with
  | 0 => nI (pR (aP A))
  | 1 => nI (pC (aP A))
  | 2 => nI (pN (aP A))
  | 3 => nI (pH (aP A))
  | 4 => nI (pL (aP A))
  | 5 => nI (bmN (blk (pH (aP A)) (pL (aP A))) 4)
  | 6 => nI (msN (aP A) (pH (aP A)) (pL (aP A)))
  | 7 => nI (sd (pro (aP A)) (pN (aP A)))
  | 8 => nI (sd (pco (aP A)) (pN (aP A)))
  | 9 => (bcA (aP A) (pN (aP A))).1
  | 10 => nI (bsF (aP A) 3).1
  | 11 => bdI (aP A)
  | 12 => nI (aA A).length
  | 13 => nI (aM A)
  | _ => nI (aN A)
theorem sq_bd {a b m : Nat} (ha : a ≤ m) (hb : b ≤ m) : sq a b ≤ m * m := by
  unfold sq dst
  split
  · exact Nat.mul_le_mul (by omega) (by omega)
  · exact Nat.mul_le_mul (by omega) (by omega)
theorem sd_bd {f : Nat → Nat} {n : Nat} (hn : n ≤ 20) : sd f n ≤ 8000 := by
  have h : ∀ k, k < n → sq k (gN f (f k) n) ≤ 20 * 20 := by
    intro k hk
    have := gN_le (cH_pos (f := f) hk rfl)
    exact sq_bd (by omega) (by omega)
  have h2 := sm_bd h
  have h3 : n * (20 * 20) ≤ 20 * (20 * 20) := Nat.mul_le_mul_right _ hn
  unfold sd
  omega
theorem sdB_bd {S : Pic} (hn : pN S ≤ 20) : sdB S ≤ 16000 := by
  have h1 := sd_bd (f := pro S) hn
  have h2 := sd_bd (f := pco S) hn
  unfold sdB
  omega
theorem msN_bd {S : Pic} {sh lo : Nat} (hO : OKo S) : msN S sh lo ≤ 6400 := by
  have h : ∀ k, k < 16 → sq (outN S sh lo k) (pdt S k) ≤ 20 * 20 := by
    intro k hk
    have h1 := outN_le (S := S) (sh := sh) (lo := lo) (k := k)
    have h2 := hO.2.2 k hk
    have h3 := hO.1
    exact sq_bd (by omega) (by omega)
  exact sm_bd h
section TH
variable {X : Cx} {d : Nat} {w : Wd} {A : Ab}
theorem c_write {x : Int32} (hR : ClsR w A) (hA : AOK A) : Ct X 0 (d + 1) MX7_write [vR 7 0 [], vI x] w (qI fun z w' => (¬ inN x 256 ∧ z = -2 ∧ ClsR w' A) ∨ (inN x 256 ∧ aN A = 70 ∧ z = -4 ∧ ClsR w' A) ∨ (inN x 256 ∧ aN A < 70 ∧ z = nI (aN A + 1) ∧ ClsR w' (aN A + 1, fnU (aX A) (aN A) x, A.2.2))) := by
  have hle : x ≤ nI 255 ↔ ¬ nI 256 ≤ x := by
    rw [Int32.le_iff_toInt_le, Int32.le_iff_toInt_le, show (nI 255).toInt = 255 from rfl, show (nI 256).toInt = 256 from rfl]
    omega
  refine Ct.of (by decide) rfl (Nat.le_of_ble_eq_true rfl) ?_
  show Wq _ _ _ _ 0 [(0, _), (1, _)] [] _ _
  refine R_iload_n (i := 1) (q := 1) dX7_write_0 rfl rfl rfl ?_
  refine R_if_lt (tgt := 11) (q := 4) dX7_write_1 (by decide) rfl (fun c1 => ?_) (fun c1 => ?_)
  · refine R_bipush (v := (-2)) (q := 13) dX7_write_11 (by decide) rfl ?_
    refine R_ri dX7_write_13 rfl ?_
    exact Or.inl ⟨fun h => h.1 c1, rfl, hR⟩
  · refine R_iload_n (i := 1) (q := 5) dX7_write_4 rfl rfl rfl ?_
    refine R_sipush (v := nI 255) (q := 8) dX7_write_5 (by decide) rfl ?_
    refine R_icmp_le (tgt := 14) (q := 11) dX7_write_8 (by decide) rfl (fun c2 => ?_) (fun c2 => ?_)
    · have hin : inN x 256 := ⟨c1, hle.mp c2⟩
      refine R_aload_n (i := 0) (q := 15) dX7_write_14 rfl rfl rfl ?_
      refine R_getR (q := 18) dX7_write_15 fl_X7_12 rfl (by decide) rfl ?_
      refine R_iload_n (i := 1) (q := 19) dX7_write_18 rfl rfl rfl ?_
      refine R_cV1i (M' := MX6_add) (q := 22) dX7_write_19 ml_X7_65 mk_X6_add (Nat.le_of_ble_eq_true rfl) rfl (c_tadd hR.1.1 hA.1) ?_
      rintro z w1 hz
      rcases hz with ⟨h70, rfl, rfl⟩ | ⟨h70, rfl, rfl⟩
      · refine R_if_eq (tgt := 35) (q := 25) dX7_write_22 (by decide) rfl (fun c3 => ?_) (fun c3 => ?_)
        · exact absurd c3 (by decide)
        · refine R_aload_n (i := 0) (q := 26) dX7_write_25 rfl rfl rfl ?_
          refine R_getR (q := 29) dX7_write_26 fl_X7_12 rfl (by decide) rfl ?_
          refine R_getI' (q := 32) dX7_write_29 fl_X7_69 rfl (uI_same _ _ _ _) rfl ?_
          refine R_goto (q := 37) dX7_write_32 (by decide) ?_
          refine R_ri dX7_write_37 rfl ?_
          refine Or.inr (Or.inr ⟨hin, h70, rfl, ?_⟩)
          obtain ⟨h1, h2, h3, h4, h5, h6⟩ := hR
          have hF : Fr [[0], [0, 0]] w (uI (uI w [0, 0] (aN A) x) [0] 1 (nI (aN A + 1))) := (Fr.i (by simp)).tr (Fr.i (by simp))
          refine ⟨⟨uI_same _ _ _ _, ?_⟩, h2.fr hF (by decide) (by decide) (by decide) (by decide), h3.fr hF (by decide) (fun k _ => ?_), h4.fr hF (by decide) (fun k _ => ?_), h5.fr hF (by decide) (by decide) (by decide), h6⟩
          · intro i hi
            show _ = fnU (aX A) (aN A) x i
            by_cases h : i = aN A
            · subst h
              simp [uI, uA, upd, fnU]
            · have hi : i < aN A + 1 := hi
              have h9 := h1.2 i (by omega)
              simp [uI, uA, upd, fnU, h, h9]
          · refine ⟨?_, ?_, ?_, ?_⟩ <;> simp
          · refine ⟨?_, ?_, ?_, ?_⟩ <;> simp
      · refine R_if_eq (tgt := 35) (q := 25) dX7_write_22 (by decide) rfl (fun c3 => ?_) (fun c3 => ?_)
        · refine R_bipush (v := (-4)) (q := 37) dX7_write_35 (by decide) rfl ?_
          refine R_ri dX7_write_37 rfl ?_
          exact Or.inr (Or.inl ⟨hin, h70, rfl, hR⟩)
        · exact absurd rfl c3
    · refine R_bipush (v := (-2)) (q := 13) dX7_write_11 (by decide) rfl ?_
      refine R_ri dX7_write_13 rfl ?_
      exact Or.inl ⟨fun h => c2 (hle.mpr h.2), rfl, hR⟩
theorem c_wipe (hR : ClsR w A) : Ct X 0 d MX7_wipe [vR 7 0 []] w (qI fun z w' => z = nI (aN A) ∧ ClsR w' (0, A.2)) := by
  refine Ct.of (by decide) rfl (Nat.le_of_ble_eq_true rfl) ?_
  show Wq _ _ _ _ 0 [(0, _)] [] _ _
  refine R_aload_n (i := 0) (q := 1) dX7_wipe_0 rfl rfl rfl ?_
  refine R_getR (q := 4) dX7_wipe_1 fl_X7_12 rfl (by decide) rfl ?_
  refine R_getI' (q := 7) dX7_wipe_4 fl_X7_69 rfl (hR.1.1) rfl ?_
  refine R_istore_n (i := 1) (q := 8) (loc' := [(1, _), (0, _)]) dX7_wipe_7 rfl (by decide) (by rfl) rfl ?_
  refine R_aload_n (i := 0) (q := 9) dX7_wipe_8 rfl rfl rfl ?_
  refine R_getR (q := 12) dX7_wipe_9 fl_X7_12 rfl (by decide) rfl ?_
  refine R_iconst (v := nI 0) (q := 13) dX7_wipe_12 (by decide) rfl ?_
  refine R_putI (q := 16) dX7_wipe_13 fl_X7_69 rfl rfl ?_
  refine R_iload_n (i := 1) (q := 17) dX7_wipe_16 rfl rfl rfl ?_
  refine R_ri dX7_wipe_17 rfl ?_
  obtain ⟨h1, h2, h3, h4, h5, h6⟩ := hR
  have hF : Fr [[0], [0, 0]] w (uI w [0] 1 (nI 0)) := Fr.i (by simp)
  refine ⟨rfl, ⟨uI_same _ _ _ _, fun i hi => absurd hi (Nat.not_lt_zero i)⟩, h2.fr hF (by decide) (by decide) (by decide) (by decide), h3.fr hF (by decide) (fun k _ => ?_), h4.fr hF (by decide) (fun k _ => ?_), h5.fr hF (by decide) (by decide) (by decide), h6⟩
  · refine ⟨?_, ?_, ?_, ?_⟩ <;> simp
  · refine ⟨?_, ?_, ?_, ?_⟩ <;> simp
theorem c_fault (hR : ClsR w A) (hA : AOK A) : Ct X 0 (d + 4) MX7_fault [vR 7 0 []] w (qI fun z w' => RdQ (aX A) (aN A) z (fun _ => True) ∧ ClsR w' A) := by
  refine Ct.of (by decide) rfl (Nat.le_of_ble_eq_true rfl) ?_
  show Wq _ _ _ _ 0 [(0, _)] [] _ _
  refine R_aload_n (i := 0) (q := 1) dX7_fault_0 rfl rfl rfl ?_
  refine R_getR (q := 4) dX7_fault_1 fl_X7_12 rfl (by decide) rfl ?_
  refine R_aload_n (i := 0) (q := 5) dX7_fault_4 rfl rfl rfl ?_
  refine R_getR (q := 8) dX7_fault_5 fl_X7_23 rfl (by decide) rfl ?_
  refine R_cV1i (M' := MX6_readInto) (q := 11) dX7_fault_8 ml_X7_73 mk_X6_readInto (Nat.le_of_ble_eq_true rfl) rfl (c_readInto hA.1 hR.1.1 hR.1.2 (by decide) (by decide)) ?_
  rintro z w1 ⟨hQ, hF⟩
  refine R_ri dX7_fault_11 rfl ?_
  refine ⟨?_, hR.sc (hF.up (by decide))⟩
  rcases hQ with h | ⟨st, h1, h2⟩
  · exact Or.inl h
  · exact Or.inr ⟨st, h1, h2.imp (fun h => ⟨h.1, h.2.1, h.2.2.1, trivial⟩) id⟩
theorem c_map (hR : ClsR w A) (hA : AOK A) : Ct X 0 (d + 4) MX7_map [vR 7 0 []] w (qI fun z w' => (z = -3 ∧ (∃ y, RdQ (aX A) (aN A) y (fun _ => True) ∧ ¬ y = -9) ∧ ClsR w' A) ∨ ∃ st, rdL (aX A) (aN A) = some st ∧ (0 < aN A ∧ aN A % 3 = 0) ∧ z = nI st.2.2.1 ∧ ClsR w' (aN A, aX A, rsP st, [], (fun _ => none), A.2.2.2.2.2)) := by
  refine Ct.of (by decide) rfl (Nat.le_of_ble_eq_true rfl) ?_
  show Wq _ _ _ _ 0 [(0, _)] [] _ _
  refine R_aload_n (i := 0) (q := 1) dX7_map_0 rfl rfl rfl ?_
  refine R_getR (q := 4) dX7_map_1 fl_X7_12 rfl (by decide) rfl ?_
  refine R_aload_n (i := 0) (q := 5) dX7_map_4 rfl rfl rfl ?_
  refine R_getR (q := 8) dX7_map_5 fl_X7_23 rfl (by decide) rfl ?_
  refine R_cV1i (M' := MX6_readInto) (q := 11) dX7_map_8 ml_X7_73 mk_X6_readInto (Nat.le_of_ble_eq_true rfl) rfl (c_readInto hA.1 hR.1.1 hR.1.2 (by decide) (by decide)) ?_
  rintro z w1 ⟨hQ, hF⟩
  have hR1 := hR.sc (hF.up (by decide))
  refine R_bipush (v := (-9)) (q := 13) dX7_map_11 (by decide) rfl ?_
  refine R_icmp_eq (tgt := 19) (q := 16) dX7_map_13 (by decide) rfl (fun c1 => ?_) (fun c1 => ?_)
  · obtain ⟨st, e1, e2, e3, e4⟩ : ∃ st, rdL (aX A) (aN A) = some st ∧ 0 < aN A ∧ aN A % 3 = 0 ∧ StA w1 [2] (rsP st) := by
      have hno : ∀ k, k ≤ 70 → nI k ≠ -9 := by decide
      rcases hQ with ⟨k, h1, h2, h3, h4⟩ | ⟨st, h1, ⟨h2, h3, h4, h5⟩ | ⟨h2, h3⟩⟩
      · exact absurd (h4.symm.trans c1) (hno k (by have := hA.1; omega))
      · exact ⟨st, h1, h2, h3, h5⟩
      · exact absurd (h3.symm.trans c1) (hno _ hA.1)
    have hI := RI_rd e1
    refine R_aload_n (i := 0) (q := 20) dX7_map_19 rfl rfl rfl ?_
    refine R_getR (q := 23) dX7_map_20 fl_X7_19 rfl (by decide) rfl ?_
    refine R_aload_n (i := 0) (q := 24) dX7_map_23 rfl rfl rfl ?_
    refine R_getR (q := 27) dX7_map_24 fl_X7_23 rfl (by decide) rfl ?_
    refine R_cV1v (M' := MX5_copy) (q := 30) dX7_map_27 ml_X7_77 mk_X5_copy (Nat.le_of_ble_eq_true rfl) rfl (c_copy (p := [1]) e4 hI.2.2.1 (by decide) (by simp)) ?_
    rintro w2 ⟨hS2, hF2⟩
    refine R_aload_n (i := 0) (q := 31) dX7_map_30 rfl rfl rfl ?_
    refine R_getR (q := 34) dX7_map_31 fl_X7_29 rfl (by decide) rfl ?_
    refine R_cV0v (M' := MX0_forgetAll) (q := 37) dX7_map_34 ml_X7_81 mk_X0_forgetAll (Nat.le_of_ble_eq_true rfl) rfl (c_aforget) ?_
    rintro _ rfl
    refine R_aload_n (i := 0) (q := 38) dX7_map_37 rfl rfl rfl ?_
    refine R_getR (q := 41) dX7_map_38 fl_X7_36 rfl (by decide) rfl ?_
    refine R_cV0v (M' := MX4_forgetAll) (q := 44) dX7_map_41 ml_X7_84 mk_X4_forgetAll (Nat.le_of_ble_eq_true rfl) rfl (c_sforget) ?_
    rintro _ rfl
    have hF3 : Fr [[3], [4]] w2 (uI (uI w2 [3] 2 (nI 0)) [4] 1 (nI 0)) := (Fr.i (by simp)).tr (Fr.i (by simp))
    have hS3 := hS2.fr hF3 (by decide) (by decide) (by decide) (by decide)
    refine R_aload_n (i := 0) (q := 45) dX7_map_44 rfl rfl rfl ?_
    refine R_getR (q := 48) dX7_map_45 fl_X7_19 rfl (by decide) rfl ?_
    refine R_getI' (q := 51) dX7_map_48 fl_X7_85 rfl (hS3.2.2.1) rfl ?_
    refine R_ri dX7_map_51 rfl ?_
    refine Or.inr ⟨st, e1, ⟨e2, e3⟩, rfl, ?_⟩
    obtain ⟨h1, h2, h3, h4, h5, h6⟩ := hR1
    have hF4 : Fr [[1], [5, 1], [6, 1], [7, 1], [3], [4]] w1 (uI (uI w2 [3] 2 (nI 0)) [4] 1 (nI 0)) := (hF2.up (by simp)).tr (hF3.up (by simp))
    refine ⟨h1.fr hF4 (by decide) (by decide), hS3, ?_, ?_, h5.fr hF4 (by decide) (by decide) (by decide), by rw [hF4.1]; exact h6⟩
    · obtain ⟨f, q1, q2, q3, q4, q5⟩ := h3
      refine ⟨f, q1, ?_, ?_, Nat.zero_le _, fun j S hj => by cases hj⟩
      · rw [uI_nep (by decide), uI_ne (by decide), hF2.2 _ (by decide)]
        exact q2
      · rw [uI_nep (by decide), uI_same]
        rfl
    · exact ⟨0, by decide, uI_same _ _ _ _, fun i hi => Or.inl ⟨rfl, by rcases (show i = 0 ∨ i = 1 by omega) with rfl | rfl <;> rfl⟩⟩
  · refine R_bipush (v := (-3)) (q := 18) dX7_map_16 (by decide) rfl ?_
    refine R_ri dX7_map_18 rfl ?_
    refine Or.inl ⟨rfl, ⟨z, ?_, c1⟩, hR1⟩
    rcases hQ with h | ⟨st, h1, h2⟩
    · exact Or.inl h
    · exact Or.inr ⟨st, h1, h2.imp (fun h => ⟨h.1, h.2.1, h.2.2.1, trivial⟩) id⟩
theorem c_blankNow (hR : ClsR w A) (hA : AOK A) : Ct X 0 (d + 4) MX7_blankNow [vR 7 0 []] w (qI fun z w' => z = abI A 5 ∧ ClsR w' A) := by
  obtain ⟨hOK1, hOK2, hOK3, hOK4, hOK5, -⟩ := id hA.2.1
  refine Ct.of (by decide) rfl (Nat.le_of_ble_eq_true rfl) ?_
  show Wq _ _ _ _ 0 [(0, _)] [] _ _
  refine R_aload_n (i := 0) (q := 1) dX7_blankNow_0 rfl rfl rfl ?_
  refine R_getR (q := 4) dX7_blankNow_1 fl_X7_57 rfl (by decide) rfl ?_
  refine R_aload_n (i := 0) (q := 5) dX7_blankNow_4 rfl rfl rfl ?_
  refine R_getR (q := 8) dX7_blankNow_5 fl_X7_19 rfl (by decide) rfl ?_
  refine R_aload_n (i := 0) (q := 9) dX7_blankNow_8 rfl rfl rfl ?_
  refine R_getR (q := 12) dX7_blankNow_9 fl_X7_19 rfl (by decide) rfl ?_
  refine R_getI' (q := 15) dX7_blankNow_12 fl_X7_94 rfl (hR.2.1.2.2.2.1) rfl ?_
  refine R_aload_n (i := 0) (q := 16) dX7_blankNow_15 rfl rfl rfl ?_
  refine R_getR (q := 19) dX7_blankNow_16 fl_X7_19 rfl (by decide) rfl ?_
  refine R_getI' (q := 22) dX7_blankNow_19 fl_X7_97 rfl (hR.2.1.2.2.2.2.1) rfl ?_
  refine R_cV3v (M' := MX2_send) (q := 25) dX7_blankNow_22 ml_X7_160 mk_X2_send (Nat.le_of_ble_eq_true rfl) rfl (c_send hR.2.1 hA.2.1.o (Or.inl rfl) hOK4 hOK5) ?_
  rintro w1 ⟨hO, hF⟩
  refine R_aload_n (i := 0) (q := 26) dX7_blankNow_25 rfl rfl rfl ?_
  refine R_getR (q := 29) dX7_blankNow_26 fl_X7_57 rfl (by decide) rfl ?_
  refine R_getI' (q := 32) dX7_blankNow_29 fl_X7_257 rfl (hO.1) rfl ?_
  refine R_ri dX7_blankNow_32 rfl ?_
  exact ⟨rfl, hR.sc (hF.up (by decide))⟩
theorem c_sideOf {h : Nat} (hh : h < 2) (hR : ClsR w A) (hA : AOK A) : Ct X 0 (d + 3) MX7_sideOf [vR 7 0 [], vI (nI h)] w (qI fun z w' => z = abI A (7 + h) ∧ ClsR w' A) := by
  refine Ct.of (by decide) rfl (Nat.le_of_ble_eq_true rfl) ?_
  show Wq _ _ _ _ 0 [(0, _), (1, _)] [] _ _
  refine R_aload_n (i := 0) (q := 1) dX7_sideOf_0 rfl rfl rfl ?_
  refine R_getR (q := 4) dX7_sideOf_1 fl_X7_50 rfl (by decide) rfl ?_
  refine R_aload_n (i := 0) (q := 5) dX7_sideOf_4 rfl rfl rfl ?_
  refine R_getR (q := 8) dX7_sideOf_5 fl_X7_19 rfl (by decide) rfl ?_
  refine R_cV1v (M' := MX1_take) (q := 11) dX7_sideOf_8 ml_X7_148 mk_X1_take (Nat.le_of_ble_eq_true rfl) rfl (c_take (g := [6]) hR.2.1 hA.2.1.o.1 hA.2.1.o.2.1 (by decide) (by decide) (by decide) (by decide)) ?_
  rintro w1 ⟨hG, hF⟩
  refine R_aload_n (i := 0) (q := 12) dX7_sideOf_11 rfl rfl rfl ?_
  refine R_getR (q := 15) dX7_sideOf_12 fl_X7_50 rfl (by decide) rfl ?_
  refine R_iload_n (i := 1) (q := 16) dX7_sideOf_15 rfl rfl rfl ?_
  refine R_cV1i (M' := MX1_side) (q := 19) dX7_sideOf_16 ml_X7_260 mk_X1_side (Nat.le_of_ble_eq_true rfl) rfl (c_side hh) ?_
  rintro _ w ⟨rfl, rfl⟩
  refine R_ri dX7_sideOf_19 rfl ?_
  refine ⟨?_, hR.sc (hF.up (by decide))⟩
  rcases (show h = 0 ∨ h = 1 by omega) with rfl | rfl
  · exact hG.2.2.1
  · exact hG.2.2.2
theorem c_bothSides {p : List Nat} {S : Pic} (hS : StA w p S) (hO : OKo S) (hp : p = [1] ∨ p = [2]) : Ct X 0 (d + 3) MX7_bothSides [vR 7 0 [], vR 5 0 p] w (qI fun z w' => z = nI (sdB S) ∧ Fr (FG [6]) w w') := by
  have g0 : p ∉ FG [6] := by rcases hp with rfl | rfl <;> decide
  have g5 : 5 :: p ∉ FG [6] := by rcases hp with rfl | rfl <;> decide
  have g6 : 6 :: p ∉ FG [6] := by rcases hp with rfl | rfl <;> decide
  have g7 : 7 :: p ∉ FG [6] := by rcases hp with rfl | rfl <;> decide
  refine Ct.of (by decide) rfl (Nat.le_of_ble_eq_true rfl) ?_
  show Wq _ _ _ _ 0 [(0, _), (1, _)] [] _ _
  refine R_aload_n (i := 0) (q := 1) dX7_bothSides_0 rfl rfl rfl ?_
  refine R_getR (q := 4) dX7_bothSides_1 fl_X7_50 rfl (by decide) rfl ?_
  refine R_aload_n (i := 1) (q := 5) dX7_bothSides_4 rfl rfl rfl ?_
  refine R_cV1v (M' := MX1_take) (q := 8) dX7_bothSides_5 ml_X7_148 mk_X1_take (Nat.le_of_ble_eq_true rfl) rfl (c_take (g := [6]) hS hO.1 hO.2.1 g0 g5 g6 g7) ?_
  rintro w1 ⟨hG, hF⟩
  refine R_aload_n (i := 0) (q := 9) dX7_bothSides_8 rfl rfl rfl ?_
  refine R_getR (q := 12) dX7_bothSides_9 fl_X7_50 rfl (by decide) rfl ?_
  refine R_iconst (v := nI 0) (q := 13) dX7_bothSides_12 (by decide) rfl ?_
  refine R_cV1i (M' := MX1_side) (q := 16) dX7_bothSides_13 ml_X7_260 mk_X1_side (Nat.le_of_ble_eq_true rfl) rfl (c_side (h := 0) (by decide)) ?_
  rintro _ w1 ⟨rfl, rfl⟩
  refine R_aload_n (i := 0) (q := 17) dX7_bothSides_16 rfl rfl rfl ?_
  refine R_getR (q := 20) dX7_bothSides_17 fl_X7_50 rfl (by decide) rfl ?_
  refine R_iconst (v := nI 1) (q := 21) dX7_bothSides_20 (by decide) rfl ?_
  refine R_cV1i (M' := MX1_side) (q := 24) dX7_bothSides_21 ml_X7_260 mk_X1_side (Nat.le_of_ble_eq_true rfl) rfl (c_side (h := 1) (by decide)) ?_
  rintro _ w1 ⟨rfl, rfl⟩
  rw [hG.2.2.1, hG.2.2.2]
  first | refine R_iaddN (q := 25) dX7_bothSides_24 rfl ?_ | refine R_iadd (q := 25) dX7_bothSides_24 rfl ?_
  refine R_ri dX7_bothSides_25 rfl ?_
  exact ⟨rfl, hF⟩
theorem one_shl : ∀ k, k < 4 → (nI 1 <<< (nI k &&& 31)) = nI (2 ^ k) ∧ 2 ^ k < 16 := by decide
theorem gmN_bd {S : Pic} {v : Nat} (hO : OKo S) : ∀ k, gmN S v k ≤ 6400
  | 0 => Nat.zero_le _
  | k + 1 => by
    have h1 := gmN_bd (v := v) hO k
    have h2 := msN_bd (sh := v) (lo := 2 ^ k) hO
    simp only [gmN]
    split <;> omega
theorem max_nI {a b : Nat} (ha : a < 2 ^ 31) (hb : b < 2 ^ 31) : (if nI a < nI b then nI b else nI a) = nI (if a < b then b else a) := by
  by_cases h : a < b
  · rw [if_pos h, if_pos ((nI_ltI ha hb).mpr h)]
  · rw [if_neg h, if_neg (fun h2 => h ((nI_ltI ha hb).mp h2))]
theorem l_gm {v : Nat} {w0 : Wd} (hv : v < 4) (hR : ClsR w0 A) (hA : AOK A) : ∀ (f k : Nat) (w : Wd), 4 ≤ k + f → k ≤ 4 → Fr FO w0 w → Wq X 0 (d + 5) MX7_greatestMiss 4 [(3, vI (nI k)), (2, vI (nI (gmN (aP A) v k))), (0, vR 7 0 []), (1, vI (nI v))] [] w (qI fun z w' => z = nI (gmN (aP A) v 4) ∧ Fr FO w0 w') := by
  intro f
  induction f with
  | zero =>
    intro k w h1 h2 hF
    refine R_iload_n (i := 3) (q := 5) dX7_greatestMiss_4 rfl rfl rfl ?_
    refine R_iconst (v := nI 4) (q := 6) dX7_greatestMiss_5 (by decide) rfl ?_
    refine R_icmp_geN (by omega) (by omega) (tgt := 35) (q := 9) dX7_greatestMiss_6 (by decide) rfl (fun c1 => ?_) (fun c1 => ?_)
    · obtain rfl : k = 4 := by omega
      refine R_iload_n (i := 2) (q := 36) dX7_greatestMiss_35 rfl rfl rfl ?_
      refine R_ri dX7_greatestMiss_36 rfl ?_
      exact ⟨rfl, hF⟩
    · omega
  | succ f ih =>
    intro k w h1 h2 hF
    refine R_iload_n (i := 3) (q := 5) dX7_greatestMiss_4 rfl rfl rfl ?_
    refine R_iconst (v := nI 4) (q := 6) dX7_greatestMiss_5 (by decide) rfl ?_
    refine R_icmp_geN (by omega) (by omega) (tgt := 35) (q := 9) dX7_greatestMiss_6 (by decide) rfl (fun c1 => ?_) (fun c1 => ?_)
    · obtain rfl : k = 4 := by omega
      refine R_iload_n (i := 2) (q := 36) dX7_greatestMiss_35 rfl rfl rfl ?_
      refine R_ri dX7_greatestMiss_36 rfl ?_
      exact ⟨rfl, hF⟩
    · refine R_iload_n (i := 2) (q := 10) dX7_greatestMiss_9 rfl rfl rfl ?_
      refine R_aload_n (i := 0) (q := 11) dX7_greatestMiss_10 rfl rfl rfl ?_
      refine R_getR (q := 14) dX7_greatestMiss_11 fl_X7_57 rfl (by decide) rfl ?_
      refine R_aload_n (i := 0) (q := 15) dX7_greatestMiss_14 rfl rfl rfl ?_
      refine R_getR (q := 18) dX7_greatestMiss_15 fl_X7_19 rfl (by decide) rfl ?_
      refine R_iload_n (i := 1) (q := 19) dX7_greatestMiss_18 rfl rfl rfl ?_
      refine R_iconst (v := nI 1) (q := 20) dX7_greatestMiss_19 (by decide) rfl ?_
      refine R_iload_n (i := 3) (q := 21) dX7_greatestMiss_20 rfl rfl rfl ?_
      refine R_ishl (q := 22) dX7_greatestMiss_21 rfl ?_
      rw [(one_shl k c1).1]
      refine R_cV3i (M' := MX2_missBy) (q := 25) dX7_greatestMiss_22 ml_X7_104 mk_X2_missBy (Nat.le_of_ble_eq_true rfl) rfl (c_missBy ((hR.sc (hF.up (by decide))).2.1) hA.2.1.o (Or.inl rfl) hv (one_shl k c1).2) ?_
      rintro _ w1 ⟨rfl, hF1⟩
      refine R_mmax (q := 28) dX7_greatestMiss_25 mj_X7_266 mk_J9_max_7cf53 (Nat.le_of_ble_eq_true rfl) rfl ?_
      have b1 := gmN_bd (v := v) hA.2.1.o k
      have b2 := msN_bd (sh := v) (lo := 2 ^ k) hA.2.1.o
      rw [max_nI (by omega) (by omega)]
      refine R_istore_n (i := 2) (q := 29) (loc' := [(2, _), (3, _), (0, _), (1, _)]) dX7_greatestMiss_28 rfl (by decide) (by rfl) rfl ?_
      first | refine R_iincN (q := 32) (loc' := [(3, _), (2, _), (0, _), (1, _)]) dX7_greatestMiss_29 (by rfl) (by decide) (by rfl) rfl ?_ | refine R_iinc (q := 32) (loc' := [(3, _), (2, _), (0, _), (1, _)]) dX7_greatestMiss_29 (by rfl) (by rfl) (by decide) (by rfl) rfl ?_
      refine R_goto (q := 4) dX7_greatestMiss_32 (by decide) ?_
      exact ih (k + 1) w1 (by omega) (by omega) (hF.tr hF1)
theorem c_greatestMiss {v : Nat} (hv : v < 4) (hR : ClsR w A) (hA : AOK A) : Ct X 0 (d + 5) MX7_greatestMiss [vR 7 0 [], vI (nI v)] w (qI fun z w' => z = nI (gmN (aP A) v 4) ∧ Fr FO w w') := by
  refine Ct.of (by decide) rfl (Nat.le_of_ble_eq_true rfl) ?_
  show Wq _ _ _ _ 0 [(0, _), (1, _)] [] _ _
  refine R_iconst (v := nI 0) (q := 1) dX7_greatestMiss_0 (by decide) rfl ?_
  refine R_istore_n (i := 2) (q := 2) (loc' := [(2, _), (0, _), (1, _)]) dX7_greatestMiss_1 rfl (by decide) (by rfl) rfl ?_
  refine R_iconst (v := nI 0) (q := 3) dX7_greatestMiss_2 (by decide) rfl ?_
  refine R_istore_n (i := 3) (q := 4) (loc' := [(3, _), (2, _), (0, _), (1, _)]) dX7_greatestMiss_3 rfl (by decide) (by rfl) rfl ?_
  exact l_gm hv hR hA 4 0 w (by omega) (by omega) Fr.rf
theorem bsF_bd {S : Pic} (hO : OKo S) : ∀ v, (bsF S v).2 ≤ 6400
  | 0 => gmN_bd hO 4
  | v + 1 => by
    have h1 := bsF_bd hO v
    have h2 := gmN_bd (v := v + 1) hO 4
    simp only [bsF]
    split
    · exact h2
    · exact h1
theorem l_bs {w0 : Wd} (hR : ClsR w0 A) (hA : AOK A) : ∀ (f v : Nat) (w : Wd), 4 ≤ v + 1 + f → v + 1 ≤ 4 → Fr FO w0 w → Wq X 0 (d + 6) MX7_bestShift 10 [(3, vI (nI (v + 1))), (2, vI (nI (bsF (aP A) v).2)), (1, vI (nI (bsF (aP A) v).1)), (0, vR 7 0 [])] [] w (qI fun z w' => z = abI A 10 ∧ Fr FO w0 w') := by
  intro f
  induction f with
  | zero =>
    intro v w h1 h2 hF
    refine R_iload_n (i := 3) (q := 11) dX7_bestShift_10 rfl rfl rfl ?_
    refine R_iconst (v := nI 4) (q := 12) dX7_bestShift_11 (by decide) rfl ?_
    refine R_icmp_geN (by omega) (by omega) (tgt := 39) (q := 15) dX7_bestShift_12 (by decide) rfl (fun c1 => ?_) (fun c1 => ?_)
    · obtain rfl : v = 3 := by omega
      refine R_iload_n (i := 1) (q := 40) dX7_bestShift_39 rfl rfl rfl ?_
      refine R_ri dX7_bestShift_40 rfl ?_
      exact ⟨rfl, hF⟩
    · omega
  | succ f ih =>
    intro v w h1 h2 hF
    refine R_iload_n (i := 3) (q := 11) dX7_bestShift_10 rfl rfl rfl ?_
    refine R_iconst (v := nI 4) (q := 12) dX7_bestShift_11 (by decide) rfl ?_
    refine R_icmp_geN (by omega) (by omega) (tgt := 39) (q := 15) dX7_bestShift_12 (by decide) rfl (fun c1 => ?_) (fun c1 => ?_)
    · obtain rfl : v = 3 := by omega
      refine R_iload_n (i := 1) (q := 40) dX7_bestShift_39 rfl rfl rfl ?_
      refine R_ri dX7_bestShift_40 rfl ?_
      exact ⟨rfl, hF⟩
    · refine R_aload_n (i := 0) (q := 16) dX7_bestShift_15 rfl rfl rfl ?_
      refine R_iload_n (i := 3) (q := 17) dX7_bestShift_16 rfl rfl rfl ?_
      refine R_cV1i (M' := MX7_greatestMiss) (q := 20) dX7_bestShift_17 ml_X7_263 mk_X7_greatestMiss (Nat.le_of_ble_eq_true rfl) rfl (c_greatestMiss c1 (hR.sc (hF.up (by decide))) hA) ?_
      rintro _ w1 ⟨rfl, hF1⟩
      have b1 := bsF_bd hA.2.1.o v
      have b2 := gmN_bd (v := v + 1) hA.2.1.o 4
      have e := ih (v + 1) w1 (by omega) (by omega) (hF.tr hF1)
      simp only [bsF] at e
      refine R_istore (q := 22) (loc' := [(4, _), (3, _), (2, _), (1, _), (0, _)]) dX7_bestShift_20 (by decide) (by rfl) rfl ?_
      refine R_iload (q := 24) dX7_bestShift_22 rfl rfl ?_
      refine R_iload_n (i := 2) (q := 25) dX7_bestShift_24 rfl rfl rfl ?_
      refine R_icmp_geN (by omega) (by omega) (tgt := 33) (q := 28) dX7_bestShift_25 (by decide) rfl (fun c2 => ?_) (fun c2 => ?_)
      · rw [if_neg (by omega)] at e
        first | refine R_iincN (q := 36) (loc' := [(3, _), (4, _), (2, _), (1, _), (0, _)]) dX7_bestShift_33 (by rfl) (by decide) (by rfl) rfl ?_ | refine R_iinc (q := 36) (loc' := [(3, _), (4, _), (2, _), (1, _), (0, _)]) dX7_bestShift_33 (by rfl) (by rfl) (by decide) (by rfl) rfl ?_
        refine R_goto (q := 10) dX7_bestShift_36 (by decide) ?_
        refine R_loc [0, 2, 3, 4] (loc' := [(3, _), (2, _), (1, _), (0, _)]) (by rfl) ?_
        exact e
      · rw [if_pos c2] at e
        refine R_iload (q := 30) dX7_bestShift_28 rfl rfl ?_
        refine R_istore_n (i := 2) (q := 31) (loc' := [(2, _), (4, _), (3, _), (1, _), (0, _)]) dX7_bestShift_30 rfl (by decide) (by rfl) rfl ?_
        refine R_iload_n (i := 3) (q := 32) dX7_bestShift_31 rfl rfl rfl ?_
        refine R_istore_n (i := 1) (q := 33) (loc' := [(1, _), (2, _), (4, _), (3, _), (0, _)]) dX7_bestShift_32 rfl (by decide) (by rfl) rfl ?_
        first | refine R_iincN (q := 36) (loc' := [(3, _), (1, _), (2, _), (4, _), (0, _)]) dX7_bestShift_33 (by rfl) (by decide) (by rfl) rfl ?_ | refine R_iinc (q := 36) (loc' := [(3, _), (1, _), (2, _), (4, _), (0, _)]) dX7_bestShift_33 (by rfl) (by rfl) (by decide) (by rfl) rfl ?_
        refine R_goto (q := 10) dX7_bestShift_36 (by decide) ?_
        refine R_loc [0, 2, 1, 4] (loc' := [(3, _), (2, _), (1, _), (0, _)]) (by rfl) ?_
        exact e
theorem c_bestShift (hR : ClsR w A) (hA : AOK A) : Ct X 0 (d + 6) MX7_bestShift [vR 7 0 []] w (qI fun z w' => z = abI A 10 ∧ ClsR w' A) := by
  refine Ct.of (by decide) rfl (Nat.le_of_ble_eq_true rfl) ?_
  show Wq _ _ _ _ 0 [(0, _)] [] _ _
  refine R_iconst (v := nI 0) (q := 1) dX7_bestShift_0 (by decide) rfl ?_
  refine R_istore_n (i := 1) (q := 2) (loc' := [(1, _), (0, _)]) dX7_bestShift_1 rfl (by decide) (by rfl) rfl ?_
  refine R_aload_n (i := 0) (q := 3) dX7_bestShift_2 rfl rfl rfl ?_
  refine R_iconst (v := nI 0) (q := 4) dX7_bestShift_3 (by decide) rfl ?_
  refine R_cV1i (M' := MX7_greatestMiss) (q := 7) dX7_bestShift_4 ml_X7_263 mk_X7_greatestMiss (Nat.le_of_ble_eq_true rfl) rfl (c_greatestMiss (v := 0) (by decide) hR hA) ?_
  rintro _ w1 ⟨rfl, hF1⟩
  refine R_istore_n (i := 2) (q := 8) (loc' := [(2, _), (1, _), (0, _)]) dX7_bestShift_7 rfl (by decide) (by rfl) rfl ?_
  refine R_iconst (v := nI 1) (q := 9) dX7_bestShift_8 (by decide) rfl ?_
  refine R_istore_n (i := 3) (q := 10) (loc' := [(3, _), (2, _), (1, _), (0, _)]) dX7_bestShift_9 rfl (by decide) (by rfl) rfl ?_
  refine Wq_mono (l_bs hR hA 3 0 w1 (by omega) (by omega) hF1) ?_
  rintro z w2 ⟨h1, h2⟩
  exact ⟨h1, hR.sc (h2.up (by decide))⟩
theorem l_band (hR : ClsR w A) (hA : AOK A) : ∀ (f b : Nat), 6 ≤ b + f → b ≤ 6 → b + f = 6 → Wq X 0 (d + 2) MX7_band 2 [(1, vI (nI b)), (0, vR 7 0 [])] [] w (qI fun z w' => z = bdF (fun b => decide (pN (aP A) ≤ cw (pC (aP A)) b (pR (aP A)))) f b ∧ w' = w) := by
  obtain ⟨hOK1, hOK2, hOK3, hOK4, hOK5, -⟩ := id hA.2.1
  intro f
  induction f with
  | zero =>
    intro b h1 h2 h3
    refine R_iload_n (i := 1) (q := 3) dX7_band_2 rfl rfl rfl ?_
    refine R_bipush (v := nI 6) (q := 5) dX7_band_3 (by decide) rfl ?_
    refine R_icmp_geN (by omega) (by omega) (tgt := 34) (q := 8) dX7_band_5 (by decide) rfl (fun c1 => ?_) (fun c1 => ?_)
    · refine R_bipush (v := (-9)) (q := 36) dX7_band_34 (by decide) rfl ?_
      refine R_ri dX7_band_36 rfl ?_
      exact ⟨rfl, rfl⟩
    · omega
  | succ f ih =>
    intro b h1 h2 h3
    refine R_iload_n (i := 1) (q := 3) dX7_band_2 rfl rfl rfl ?_
    refine R_bipush (v := nI 6) (q := 5) dX7_band_3 (by decide) rfl ?_
    refine R_icmp_geN (by omega) (by omega) (tgt := 34) (q := 8) dX7_band_5 (by decide) rfl (fun c1 => ?_) (fun c1 => ?_)
    · omega
    · refine R_aload_n (i := 0) (q := 9) dX7_band_8 rfl rfl rfl ?_
      refine R_getR (q := 12) dX7_band_9 fl_X7_19 rfl (by decide) rfl ?_
      refine R_iload_n (i := 1) (q := 13) dX7_band_12 rfl rfl rfl ?_
      refine R_cV1i (M' := MX5_cellsWithin) (q := 16) dX7_band_13 ml_X7_179 mk_X5_cellsWithin (Nat.le_of_ble_eq_true rfl) rfl (c_cellsWithin hR.2.1 hOK1.2 hOK2.2 (by omega)) ?_
      rintro _ w ⟨rfl, rfl⟩
      have hcw := cw_le (pC (aP A)) b (pR (aP A))
      have hcw2 : pR (aP A) * pC (aP A) ≤ 6 * 6 := Nat.mul_le_mul hOK1.2 hOK2.2
      refine R_aload_n (i := 0) (q := 17) dX7_band_16 rfl rfl rfl ?_
      refine R_getR (q := 20) dX7_band_17 fl_X7_19 rfl (by decide) rfl ?_
      refine R_getI' (q := 23) dX7_band_20 fl_X7_85 rfl (hR.2.1.2.2.1) rfl ?_
      refine R_icmp_ltN (by omega) (by omega) (tgt := 28) (q := 26) dX7_band_23 (by decide) rfl (fun c2 => ?_) (fun c2 => ?_)
      · first | refine R_iincN (q := 31) (loc' := [(1, _), (0, _)]) dX7_band_28 (by rfl) (by decide) (by rfl) rfl ?_ | refine R_iinc (q := 31) (loc' := [(1, _), (0, _)]) dX7_band_28 (by rfl) (by rfl) (by decide) (by rfl) rfl ?_
        refine R_goto (q := 2) dX7_band_31 (by decide) ?_
        simp only [bdF]
        rw [if_neg (by simp; omega)]
        exact ih (b + 1) (by omega) (by omega) (by omega)
      · refine R_iload_n (i := 1) (q := 27) dX7_band_26 rfl rfl rfl ?_
        refine R_ri dX7_band_27 rfl ?_
        refine ⟨?_, rfl⟩
        simp only [bdF]
        rw [if_pos (by simpa using c2)]
theorem c_band (hR : ClsR w A) (hA : AOK A) : Ct X 0 (d + 2) MX7_band [vR 7 0 []] w (qI fun z w' => z = abI A 11 ∧ w' = w) := by
  refine Ct.of (by decide) rfl (Nat.le_of_ble_eq_true rfl) ?_
  show Wq _ _ _ _ 0 [(0, _)] [] _ _
  refine R_iconst (v := nI 0) (q := 1) dX7_band_0 (by decide) rfl ?_
  refine R_istore_n (i := 1) (q := 2) (loc' := [(1, _), (0, _)]) dX7_band_1 rfl (by decide) (by rfl) rfl ?_
  exact l_band hR hA 6 0 (by omega) (by omega) (by omega)
end TH
end
