section
-- ===== PART A: goes FIRST, ahead of the names: the tables' words, and 'selects' of the private methods out of them =====
/-- a private method of a class that the tables say can be made, by its rows of tables_1 -/
def lw_okq (q : MethodName × Nat) : Prop := (q.1.cls ≠ "java/lang/invoke/MethodHandle" ∧ q.1.cls ≠ "java/lang/invoke/VarHandle") ∧ Cond.instantiable q.1.cls q.2 ∈ tables_1 ∧ Cond.privateMethod q.1 ∈ tables_1 ∧ Cond.instanceMethod q.1 ∈ tables_1
theorem lw_p0 : lw_okq (⟨"TwoHalves$Text", "add", "(I)Z"⟩, 2) := ⟨⟨by decide +kernel, by decide +kernel⟩, List.mem_of_getElem? (i := 23) (by decide +kernel), List.mem_of_getElem? (i := 210) (by decide +kernel), List.mem_of_getElem? (i := 211) (by decide +kernel)⟩
theorem lw_p1 : lw_okq (⟨"TwoHalves$Text", "readInto", "(LTwoHalves$State;)I"⟩, 2) := ⟨⟨by decide +kernel, by decide +kernel⟩, List.mem_of_getElem? (i := 23) (by decide +kernel), List.mem_of_getElem? (i := 222) (by decide +kernel), List.mem_of_getElem? (i := 223) (by decide +kernel)⟩
theorem lw_p2 : lw_okq (⟨"TwoHalves$State", "renew", "()V"⟩, 8) := ⟨⟨by decide +kernel, by decide +kernel⟩, List.mem_of_getElem? (i := 38) (by decide +kernel), List.mem_of_getElem? (i := 226) (by decide +kernel), List.mem_of_getElem? (i := 227) (by decide +kernel)⟩
theorem lw_p3 : lw_okq (⟨"TwoHalves$State", "tellRows", "(I)Z"⟩, 8) := ⟨⟨by decide +kernel, by decide +kernel⟩, List.mem_of_getElem? (i := 38) (by decide +kernel), List.mem_of_getElem? (i := 236) (by decide +kernel), List.mem_of_getElem? (i := 237) (by decide +kernel)⟩
theorem lw_p4 : lw_okq (⟨"TwoHalves$State", "tellColumns", "(I)Z"⟩, 8) := ⟨⟨by decide +kernel, by decide +kernel⟩, List.mem_of_getElem? (i := 38) (by decide +kernel), List.mem_of_getElem? (i := 240) (by decide +kernel), List.mem_of_getElem? (i := 241) (by decide +kernel)⟩
theorem lw_p5 : lw_okq (⟨"TwoHalves$State", "hasRoom", "()Z"⟩, 8) := ⟨⟨by decide +kernel, by decide +kernel⟩, List.mem_of_getElem? (i := 38) (by decide +kernel), List.mem_of_getElem? (i := 244) (by decide +kernel), List.mem_of_getElem? (i := 245) (by decide +kernel)⟩
theorem lw_p6 : lw_okq (⟨"TwoHalves$State", "tellRow", "(I)Z"⟩, 8) := ⟨⟨by decide +kernel, by decide +kernel⟩, List.mem_of_getElem? (i := 38) (by decide +kernel), List.mem_of_getElem? (i := 248) (by decide +kernel), List.mem_of_getElem? (i := 249) (by decide +kernel)⟩
theorem lw_p7 : lw_okq (⟨"TwoHalves$State", "shadesInRow", "(I)I"⟩, 8) := ⟨⟨by decide +kernel, by decide +kernel⟩, List.mem_of_getElem? (i := 38) (by decide +kernel), List.mem_of_getElem? (i := 253) (by decide +kernel), List.mem_of_getElem? (i := 254) (by decide +kernel)⟩
theorem lw_p8 : lw_okq (⟨"TwoHalves$State", "tellColumn", "(I)Z"⟩, 8) := ⟨⟨by decide +kernel, by decide +kernel⟩, List.mem_of_getElem? (i := 38) (by decide +kernel), List.mem_of_getElem? (i := 257) (by decide +kernel), List.mem_of_getElem? (i := 258) (by decide +kernel)⟩
theorem lw_p9 : lw_okq (⟨"TwoHalves$State", "shadeIn", "(II)I"⟩, 8) := ⟨⟨by decide +kernel, by decide +kernel⟩, List.mem_of_getElem? (i := 38) (by decide +kernel), List.mem_of_getElem? (i := 261) (by decide +kernel), List.mem_of_getElem? (i := 262) (by decide +kernel)⟩
theorem lw_p10 : lw_okq (⟨"TwoHalves$State", "copy", "(LTwoHalves$State;)V"⟩, 8) := ⟨⟨by decide +kernel, by decide +kernel⟩, List.mem_of_getElem? (i := 38) (by decide +kernel), List.mem_of_getElem? (i := 269) (by decide +kernel), List.mem_of_getElem? (i := 270) (by decide +kernel)⟩
theorem lw_p11 : lw_okq (⟨"TwoHalves$Acts", "forgetAll", "()V"⟩, 3) := ⟨⟨by decide +kernel, by decide +kernel⟩, List.mem_of_getElem? (i := 83) (by decide +kernel), List.mem_of_getElem? (i := 276) (by decide +kernel), List.mem_of_getElem? (i := 277) (by decide +kernel)⟩
theorem lw_p12 : lw_okq (⟨"TwoHalves$Slots", "forgetAll", "()V"⟩, 2) := ⟨⟨by decide +kernel, by decide +kernel⟩, List.mem_of_getElem? (i := 103) (by decide +kernel), List.mem_of_getElem? (i := 280) (by decide +kernel), List.mem_of_getElem? (i := 281) (by decide +kernel)⟩
theorem lw_p13 : lw_okq (⟨"TwoHalves", "blankNow", "()I"⟩, 10) := ⟨⟨by decide +kernel, by decide +kernel⟩, List.mem_of_getElem? (i := 15) (by decide +kernel), List.mem_of_getElem? (i := 288) (by decide +kernel), List.mem_of_getElem? (i := 289) (by decide +kernel)⟩
theorem lw_p14 : lw_okq (⟨"TwoHalves$Outcome", "send", "(LTwoHalves$State;II)V"⟩, 3) := ⟨⟨by decide +kernel, by decide +kernel⟩, List.mem_of_getElem? (i := 154) (by decide +kernel), List.mem_of_getElem? (i := 292) (by decide +kernel), List.mem_of_getElem? (i := 293) (by decide +kernel)⟩
theorem lw_p15 : lw_okq (⟨"TwoHalves$Guesses", "take", "(LTwoHalves$State;)V"⟩, 4) := ⟨⟨by decide +kernel, by decide +kernel⟩, List.mem_of_getElem? (i := 135) (by decide +kernel), List.mem_of_getElem? (i := 296) (by decide +kernel), List.mem_of_getElem? (i := 297) (by decide +kernel)⟩
def lw_privs_1 : List (MethodName × Nat) := [(⟨"TwoHalves$Text", "add", "(I)Z"⟩, 2), (⟨"TwoHalves$Text", "readInto", "(LTwoHalves$State;)I"⟩, 2), (⟨"TwoHalves$State", "renew", "()V"⟩, 8), (⟨"TwoHalves$State", "tellRows", "(I)Z"⟩, 8), (⟨"TwoHalves$State", "tellColumns", "(I)Z"⟩, 8), (⟨"TwoHalves$State", "hasRoom", "()Z"⟩, 8), (⟨"TwoHalves$State", "tellRow", "(I)Z"⟩, 8), (⟨"TwoHalves$State", "shadesInRow", "(I)I"⟩, 8), (⟨"TwoHalves$State", "tellColumn", "(I)Z"⟩, 8), (⟨"TwoHalves$State", "shadeIn", "(II)I"⟩, 8), (⟨"TwoHalves$State", "copy", "(LTwoHalves$State;)V"⟩, 8), (⟨"TwoHalves$Acts", "forgetAll", "()V"⟩, 3), (⟨"TwoHalves$Slots", "forgetAll", "()V"⟩, 2), (⟨"TwoHalves", "blankNow", "()I"⟩, 10), (⟨"TwoHalves$Outcome", "send", "(LTwoHalves$State;II)V"⟩, 3), (⟨"TwoHalves$Guesses", "take", "(LTwoHalves$State;)V"⟩, 4)]
theorem lw_r1 : ∀ q ∈ lw_privs_1, lw_okq q := List.forall_mem_cons.mpr ⟨lw_p0, List.forall_mem_cons.mpr ⟨lw_p1, List.forall_mem_cons.mpr ⟨lw_p2, List.forall_mem_cons.mpr ⟨lw_p3, List.forall_mem_cons.mpr ⟨lw_p4, List.forall_mem_cons.mpr ⟨lw_p5, List.forall_mem_cons.mpr ⟨lw_p6, List.forall_mem_cons.mpr ⟨lw_p7, List.forall_mem_cons.mpr ⟨lw_p8, List.forall_mem_cons.mpr ⟨lw_p9, List.forall_mem_cons.mpr ⟨lw_p10, List.forall_mem_cons.mpr ⟨lw_p11, List.forall_mem_cons.mpr ⟨lw_p12, List.forall_mem_cons.mpr ⟨lw_p13, List.forall_mem_cons.mpr ⟨lw_p14, List.forall_mem_cons.mpr ⟨lw_p15, fun _ h => absurd h List.not_mem_nil⟩⟩⟩⟩⟩⟩⟩⟩⟩⟩⟩⟩⟩⟩⟩⟩
theorem lw_p16 : lw_okq (⟨"TwoHalves$Guesses", "count", "(II)V"⟩, 4) := ⟨⟨by decide +kernel, by decide +kernel⟩, List.mem_of_getElem? (i := 135) (by decide +kernel), List.mem_of_getElem? (i := 301) (by decide +kernel), List.mem_of_getElem? (i := 302) (by decide +kernel)⟩
theorem lw_p17 : lw_okq (⟨"TwoHalves$Guesses", "takeSides", "(LTwoHalves$State;)V"⟩, 4) := ⟨⟨by decide +kernel, by decide +kernel⟩, List.mem_of_getElem? (i := 135) (by decide +kernel), List.mem_of_getElem? (i := 308) (by decide +kernel), List.mem_of_getElem? (i := 309) (by decide +kernel)⟩
theorem lw_p18 : lw_okq (⟨"TwoHalves$Outcome", "fill", "(LTwoHalves$State;IZZ)V"⟩, 3) := ⟨⟨by decide +kernel, by decide +kernel⟩, List.mem_of_getElem? (i := 154) (by decide +kernel), List.mem_of_getElem? (i := 318) (by decide +kernel), List.mem_of_getElem? (i := 319) (by decide +kernel)⟩
theorem lw_p19 : lw_okq (⟨"TwoHalves$State", "hasShade", "(I)Z"⟩, 8) := ⟨⟨by decide +kernel, by decide +kernel⟩, List.mem_of_getElem? (i := 38) (by decide +kernel), List.mem_of_getElem? (i := 322) (by decide +kernel), List.mem_of_getElem? (i := 323) (by decide +kernel)⟩
theorem lw_p20 : lw_okq (⟨"TwoHalves$Guesses", "of", "(II)I"⟩, 4) := ⟨⟨by decide +kernel, by decide +kernel⟩, List.mem_of_getElem? (i := 135) (by decide +kernel), List.mem_of_getElem? (i := 326) (by decide +kernel), List.mem_of_getElem? (i := 327) (by decide +kernel)⟩
theorem lw_p21 : lw_okq (⟨"TwoHalves$Outcome", "isBlank", "(I)Z"⟩, 3) := ⟨⟨by decide +kernel, by decide +kernel⟩, List.mem_of_getElem? (i := 154) (by decide +kernel), List.mem_of_getElem? (i := 330) (by decide +kernel), List.mem_of_getElem? (i := 331) (by decide +kernel)⟩
theorem lw_p22 : lw_okq (⟨"TwoHalves$Outcome", "fillBlank", "(I)V"⟩, 3) := ⟨⟨by decide +kernel, by decide +kernel⟩, List.mem_of_getElem? (i := 154) (by decide +kernel), List.mem_of_getElem? (i := 334) (by decide +kernel), List.mem_of_getElem? (i := 335) (by decide +kernel)⟩
theorem lw_p23 : lw_okq (⟨"TwoHalves$Outcome", "between", "(III)I"⟩, 3) := ⟨⟨by decide +kernel, by decide +kernel⟩, List.mem_of_getElem? (i := 154) (by decide +kernel), List.mem_of_getElem? (i := 338) (by decide +kernel), List.mem_of_getElem? (i := 339) (by decide +kernel)⟩
theorem lw_p24 : lw_okq (⟨"TwoHalves$Outcome", "missBy", "(LTwoHalves$State;II)I"⟩, 3) := ⟨⟨by decide +kernel, by decide +kernel⟩, List.mem_of_getElem? (i := 154) (by decide +kernel), List.mem_of_getElem? (i := 342) (by decide +kernel), List.mem_of_getElem? (i := 343) (by decide +kernel)⟩
theorem lw_p25 : lw_okq (⟨"TwoHalves", "sideOf", "(I)I"⟩, 10) := ⟨⟨by decide +kernel, by decide +kernel⟩, List.mem_of_getElem? (i := 15) (by decide +kernel), List.mem_of_getElem? (i := 348) (by decide +kernel), List.mem_of_getElem? (i := 349) (by decide +kernel)⟩
theorem lw_p26 : lw_okq (⟨"TwoHalves$Guesses", "side", "(I)I"⟩, 4) := ⟨⟨by decide +kernel, by decide +kernel⟩, List.mem_of_getElem? (i := 135) (by decide +kernel), List.mem_of_getElem? (i := 353) (by decide +kernel), List.mem_of_getElem? (i := 354) (by decide +kernel)⟩
theorem lw_p27 : lw_okq (⟨"TwoHalves", "bestChange", "()I"⟩, 10) := ⟨⟨by decide +kernel, by decide +kernel⟩, List.mem_of_getElem? (i := 15) (by decide +kernel), List.mem_of_getElem? (i := 357) (by decide +kernel), List.mem_of_getElem? (i := 358) (by decide +kernel)⟩
theorem lw_p28 : lw_okq (⟨"TwoHalves", "bothSides", "(LTwoHalves$State;)I"⟩, 10) := ⟨⟨by decide +kernel, by decide +kernel⟩, List.mem_of_getElem? (i := 15) (by decide +kernel), List.mem_of_getElem? (i := 361) (by decide +kernel), List.mem_of_getElem? (i := 362) (by decide +kernel)⟩
theorem lw_p29 : lw_okq (⟨"TwoHalves$State", "swap", "(II)V"⟩, 8) := ⟨⟨by decide +kernel, by decide +kernel⟩, List.mem_of_getElem? (i := 38) (by decide +kernel), List.mem_of_getElem? (i := 365) (by decide +kernel), List.mem_of_getElem? (i := 366) (by decide +kernel)⟩
theorem lw_p30 : lw_okq (⟨"TwoHalves$State", "put", "(III)V"⟩, 8) := ⟨⟨by decide +kernel, by decide +kernel⟩, List.mem_of_getElem? (i := 38) (by decide +kernel), List.mem_of_getElem? (i := 370) (by decide +kernel), List.mem_of_getElem? (i := 371) (by decide +kernel)⟩
theorem lw_p31 : lw_okq (⟨"TwoHalves", "bestShift", "()I"⟩, 10) := ⟨⟨by decide +kernel, by decide +kernel⟩, List.mem_of_getElem? (i := 15) (by decide +kernel), List.mem_of_getElem? (i := 374) (by decide +kernel), List.mem_of_getElem? (i := 375) (by decide +kernel)⟩
def lw_privs_2 : List (MethodName × Nat) := [(⟨"TwoHalves$Guesses", "count", "(II)V"⟩, 4), (⟨"TwoHalves$Guesses", "takeSides", "(LTwoHalves$State;)V"⟩, 4), (⟨"TwoHalves$Outcome", "fill", "(LTwoHalves$State;IZZ)V"⟩, 3), (⟨"TwoHalves$State", "hasShade", "(I)Z"⟩, 8), (⟨"TwoHalves$Guesses", "of", "(II)I"⟩, 4), (⟨"TwoHalves$Outcome", "isBlank", "(I)Z"⟩, 3), (⟨"TwoHalves$Outcome", "fillBlank", "(I)V"⟩, 3), (⟨"TwoHalves$Outcome", "between", "(III)I"⟩, 3), (⟨"TwoHalves$Outcome", "missBy", "(LTwoHalves$State;II)I"⟩, 3), (⟨"TwoHalves", "sideOf", "(I)I"⟩, 10), (⟨"TwoHalves$Guesses", "side", "(I)I"⟩, 4), (⟨"TwoHalves", "bestChange", "()I"⟩, 10), (⟨"TwoHalves", "bothSides", "(LTwoHalves$State;)I"⟩, 10), (⟨"TwoHalves$State", "swap", "(II)V"⟩, 8), (⟨"TwoHalves$State", "put", "(III)V"⟩, 8), (⟨"TwoHalves", "bestShift", "()I"⟩, 10)]
theorem lw_r2 : ∀ q ∈ lw_privs_2, lw_okq q := List.forall_mem_cons.mpr ⟨lw_p16, List.forall_mem_cons.mpr ⟨lw_p17, List.forall_mem_cons.mpr ⟨lw_p18, List.forall_mem_cons.mpr ⟨lw_p19, List.forall_mem_cons.mpr ⟨lw_p20, List.forall_mem_cons.mpr ⟨lw_p21, List.forall_mem_cons.mpr ⟨lw_p22, List.forall_mem_cons.mpr ⟨lw_p23, List.forall_mem_cons.mpr ⟨lw_p24, List.forall_mem_cons.mpr ⟨lw_p25, List.forall_mem_cons.mpr ⟨lw_p26, List.forall_mem_cons.mpr ⟨lw_p27, List.forall_mem_cons.mpr ⟨lw_p28, List.forall_mem_cons.mpr ⟨lw_p29, List.forall_mem_cons.mpr ⟨lw_p30, List.forall_mem_cons.mpr ⟨lw_p31, fun _ h => absurd h List.not_mem_nil⟩⟩⟩⟩⟩⟩⟩⟩⟩⟩⟩⟩⟩⟩⟩⟩
theorem lw_p32 : lw_okq (⟨"TwoHalves", "greatestMiss", "(I)I"⟩, 10) := ⟨⟨by decide +kernel, by decide +kernel⟩, List.mem_of_getElem? (i := 15) (by decide +kernel), List.mem_of_getElem? (i := 378) (by decide +kernel), List.mem_of_getElem? (i := 379) (by decide +kernel)⟩
theorem lw_p33 : lw_okq (⟨"TwoHalves", "band", "()I"⟩, 10) := ⟨⟨by decide +kernel, by decide +kernel⟩, List.mem_of_getElem? (i := 15) (by decide +kernel), List.mem_of_getElem? (i := 385) (by decide +kernel), List.mem_of_getElem? (i := 386) (by decide +kernel)⟩
theorem lw_p34 : lw_okq (⟨"TwoHalves$State", "cellsWithin", "(I)I"⟩, 8) := ⟨⟨by decide +kernel, by decide +kernel⟩, List.mem_of_getElem? (i := 38) (by decide +kernel), List.mem_of_getElem? (i := 389) (by decide +kernel), List.mem_of_getElem? (i := 390) (by decide +kernel)⟩
theorem lw_p35 : lw_okq (⟨"TwoHalves$State", "timesPainted", "(I)I"⟩, 8) := ⟨⟨by decide +kernel, by decide +kernel⟩, List.mem_of_getElem? (i := 38) (by decide +kernel), List.mem_of_getElem? (i := 401) (by decide +kernel), List.mem_of_getElem? (i := 402) (by decide +kernel)⟩
theorem lw_p36 : lw_okq (⟨"TwoHalves$State", "hasCell", "(II)Z"⟩, 8) := ⟨⟨by decide +kernel, by decide +kernel⟩, List.mem_of_getElem? (i := 38) (by decide +kernel), List.mem_of_getElem? (i := 409) (by decide +kernel), List.mem_of_getElem? (i := 410) (by decide +kernel)⟩
theorem lw_p37 : lw_okq (⟨"TwoHalves$State", "numbersOf", "(I)I"⟩, 8) := ⟨⟨by decide +kernel, by decide +kernel⟩, List.mem_of_getElem? (i := 38) (by decide +kernel), List.mem_of_getElem? (i := 418) (by decide +kernel), List.mem_of_getElem? (i := 419) (by decide +kernel)⟩
theorem lw_p38 : lw_okq (⟨"TwoHalves$Acts", "remember", "(LTwoHalves$State;)V"⟩, 3) := ⟨⟨by decide +kernel, by decide +kernel⟩, List.mem_of_getElem? (i := 83) (by decide +kernel), List.mem_of_getElem? (i := 434) (by decide +kernel), List.mem_of_getElem? (i := 435) (by decide +kernel)⟩
theorem lw_p39 : lw_okq (⟨"TwoHalves$State", "layWithin", "(I)V"⟩, 8) := ⟨⟨by decide +kernel, by decide +kernel⟩, List.mem_of_getElem? (i := 38) (by decide +kernel), List.mem_of_getElem? (i := 448) (by decide +kernel), List.mem_of_getElem? (i := 449) (by decide +kernel)⟩
theorem lw_p40 : lw_okq (⟨"TwoHalves$State", "loseOrFind", "(I)V"⟩, 8) := ⟨⟨by decide +kernel, by decide +kernel⟩, List.mem_of_getElem? (i := 38) (by decide +kernel), List.mem_of_getElem? (i := 471) (by decide +kernel), List.mem_of_getElem? (i := 472) (by decide +kernel)⟩
theorem lw_p41 : lw_okq (⟨"TwoHalves$Acts", "takeBackInto", "(LTwoHalves$State;)Z"⟩, 3) := ⟨⟨by decide +kernel, by decide +kernel⟩, List.mem_of_getElem? (i := 83) (by decide +kernel), List.mem_of_getElem? (i := 479) (by decide +kernel), List.mem_of_getElem? (i := 480) (by decide +kernel)⟩
theorem lw_p42 : lw_okq (⟨"TwoHalves", "goesWell", "(III)Z"⟩, 10) := ⟨⟨by decide +kernel, by decide +kernel⟩, List.mem_of_getElem? (i := 15) (by decide +kernel), List.mem_of_getElem? (i := 494) (by decide +kernel), List.mem_of_getElem? (i := 495) (by decide +kernel)⟩
theorem lw_p43 : lw_okq (⟨"TwoHalves", "triedPack", "(I)Z"⟩, 10) := ⟨⟨by decide +kernel, by decide +kernel⟩, List.mem_of_getElem? (i := 15) (by decide +kernel), List.mem_of_getElem? (i := 498) (by decide +kernel), List.mem_of_getElem? (i := 499) (by decide +kernel)⟩
theorem lw_p44 : lw_okq (⟨"TwoHalves", "triedShift", "(I)Z"⟩, 10) := ⟨⟨by decide +kernel, by decide +kernel⟩, List.mem_of_getElem? (i := 15) (by decide +kernel), List.mem_of_getElem? (i := 502) (by decide +kernel), List.mem_of_getElem? (i := 503) (by decide +kernel)⟩
theorem lw_p45 : lw_okq (⟨"TwoHalves", "comesOutRight", "(I)Z"⟩, 10) := ⟨⟨by decide +kernel, by decide +kernel⟩, List.mem_of_getElem? (i := 15) (by decide +kernel), List.mem_of_getElem? (i := 506) (by decide +kernel), List.mem_of_getElem? (i := 507) (by decide +kernel)⟩
theorem lw_p46 : lw_okq (⟨"TwoHalves", "comesOutBlank", "(I)Z"⟩, 10) := ⟨⟨by decide +kernel, by decide +kernel⟩, List.mem_of_getElem? (i := 15) (by decide +kernel), List.mem_of_getElem? (i := 510) (by decide +kernel), List.mem_of_getElem? (i := 511) (by decide +kernel)⟩
theorem lw_p47 : lw_okq (⟨"TwoHalves", "triedChange", "(II)Z"⟩, 10) := ⟨⟨by decide +kernel, by decide +kernel⟩, List.mem_of_getElem? (i := 15) (by decide +kernel), List.mem_of_getElem? (i := 514) (by decide +kernel), List.mem_of_getElem? (i := 515) (by decide +kernel)⟩
def lw_privs_3 : List (MethodName × Nat) := [(⟨"TwoHalves", "greatestMiss", "(I)I"⟩, 10), (⟨"TwoHalves", "band", "()I"⟩, 10), (⟨"TwoHalves$State", "cellsWithin", "(I)I"⟩, 8), (⟨"TwoHalves$State", "timesPainted", "(I)I"⟩, 8), (⟨"TwoHalves$State", "hasCell", "(II)Z"⟩, 8), (⟨"TwoHalves$State", "numbersOf", "(I)I"⟩, 8), (⟨"TwoHalves$Acts", "remember", "(LTwoHalves$State;)V"⟩, 3), (⟨"TwoHalves$State", "layWithin", "(I)V"⟩, 8), (⟨"TwoHalves$State", "loseOrFind", "(I)V"⟩, 8), (⟨"TwoHalves$Acts", "takeBackInto", "(LTwoHalves$State;)Z"⟩, 3), (⟨"TwoHalves", "goesWell", "(III)Z"⟩, 10), (⟨"TwoHalves", "triedPack", "(I)Z"⟩, 10), (⟨"TwoHalves", "triedShift", "(I)Z"⟩, 10), (⟨"TwoHalves", "comesOutRight", "(I)Z"⟩, 10), (⟨"TwoHalves", "comesOutBlank", "(I)Z"⟩, 10), (⟨"TwoHalves", "triedChange", "(II)Z"⟩, 10)]
theorem lw_r3 : ∀ q ∈ lw_privs_3, lw_okq q := List.forall_mem_cons.mpr ⟨lw_p32, List.forall_mem_cons.mpr ⟨lw_p33, List.forall_mem_cons.mpr ⟨lw_p34, List.forall_mem_cons.mpr ⟨lw_p35, List.forall_mem_cons.mpr ⟨lw_p36, List.forall_mem_cons.mpr ⟨lw_p37, List.forall_mem_cons.mpr ⟨lw_p38, List.forall_mem_cons.mpr ⟨lw_p39, List.forall_mem_cons.mpr ⟨lw_p40, List.forall_mem_cons.mpr ⟨lw_p41, List.forall_mem_cons.mpr ⟨lw_p42, List.forall_mem_cons.mpr ⟨lw_p43, List.forall_mem_cons.mpr ⟨lw_p44, List.forall_mem_cons.mpr ⟨lw_p45, List.forall_mem_cons.mpr ⟨lw_p46, List.forall_mem_cons.mpr ⟨lw_p47, fun _ h => absurd h List.not_mem_nil⟩⟩⟩⟩⟩⟩⟩⟩⟩⟩⟩⟩⟩⟩⟩⟩
theorem lw_p48 : lw_okq (⟨"TwoHalves$Seen", "add", "(II)Z"⟩, 3) := ⟨⟨by decide +kernel, by decide +kernel⟩, List.mem_of_getElem? (i := 118) (by decide +kernel), List.mem_of_getElem? (i := 522) (by decide +kernel), List.mem_of_getElem? (i := 523) (by decide +kernel)⟩
theorem lw_p49 : lw_okq (⟨"TwoHalves$Seen", "isSo", "(LTwoHalves$Outcome;)Z"⟩, 3) := ⟨⟨by decide +kernel, by decide +kernel⟩, List.mem_of_getElem? (i := 118) (by decide +kernel), List.mem_of_getElem? (i := 534) (by decide +kernel), List.mem_of_getElem? (i := 535) (by decide +kernel)⟩
theorem lw_p50 : lw_okq (⟨"TwoHalves", "tellMisses", "()V"⟩, 10) := ⟨⟨by decide +kernel, by decide +kernel⟩, List.mem_of_getElem? (i := 15) (by decide +kernel), List.mem_of_getElem? (i := 542) (by decide +kernel), List.mem_of_getElem? (i := 543) (by decide +kernel)⟩
theorem lw_p51 : lw_okq (⟨"TwoHalves$State", "paintBy", "(I)V"⟩, 8) := ⟨⟨by decide +kernel, by decide +kernel⟩, List.mem_of_getElem? (i := 38) (by decide +kernel), List.mem_of_getElem? (i := 585) (by decide +kernel), List.mem_of_getElem? (i := 586) (by decide +kernel)⟩
theorem lw_p52 : lw_okq (⟨"TwoHalves$Slots", "put", "(ILTwoHalves$State;)V"⟩, 2) := ⟨⟨by decide +kernel, by decide +kernel⟩, List.mem_of_getElem? (i := 103) (by decide +kernel), List.mem_of_getElem? (i := 596) (by decide +kernel), List.mem_of_getElem? (i := 597) (by decide +kernel)⟩
theorem lw_p53 : lw_okq (⟨"TwoHalves$Slots", "takeInto", "(ILTwoHalves$State;)Z"⟩, 2) := ⟨⟨by decide +kernel, by decide +kernel⟩, List.mem_of_getElem? (i := 103) (by decide +kernel), List.mem_of_getElem? (i := 605) (by decide +kernel), List.mem_of_getElem? (i := 606) (by decide +kernel)⟩
theorem lw_p54 : lw_okq (⟨"TwoHalvesModel", "readText", "()I"⟩, 25) := ⟨⟨by decide +kernel, by decide +kernel⟩, List.mem_of_getElem? (i := 609) (by decide +kernel), List.mem_of_getElem? (i := 708) (by decide +kernel), List.mem_of_getElem? (i := 709) (by decide +kernel)⟩
theorem lw_p55 : lw_okq (⟨"TwoHalvesModel", "take", "(I)Z"⟩, 25) := ⟨⟨by decide +kernel, by decide +kernel⟩, List.mem_of_getElem? (i := 609) (by decide +kernel), List.mem_of_getElem? (i := 712) (by decide +kernel), List.mem_of_getElem? (i := 713) (by decide +kernel)⟩
theorem lw_p56 : lw_okq (⟨"TwoHalvesModel", "hasRoomAsRead", "(I)Z"⟩, 25) := ⟨⟨by decide +kernel, by decide +kernel⟩, List.mem_of_getElem? (i := 609) (by decide +kernel), List.mem_of_getElem? (i := 717) (by decide +kernel), List.mem_of_getElem? (i := 718) (by decide +kernel)⟩
theorem lw_p57 : lw_okq (⟨"TwoHalvesModel", "isEmptyAsRead", "(I)Z"⟩, 25) := ⟨⟨by decide +kernel, by decide +kernel⟩, List.mem_of_getElem? (i := 609) (by decide +kernel), List.mem_of_getElem? (i := 721) (by decide +kernel), List.mem_of_getElem? (i := 722) (by decide +kernel)⟩
theorem lw_p58 : lw_okq (⟨"TwoHalvesModel", "blanks", "()I"⟩, 25) := ⟨⟨by decide +kernel, by decide +kernel⟩, List.mem_of_getElem? (i := 609) (by decide +kernel), List.mem_of_getElem? (i := 733) (by decide +kernel), List.mem_of_getElem? (i := 734) (by decide +kernel)⟩
theorem lw_p59 : lw_okq (⟨"TwoHalvesModel", "layOut", "([II)V"⟩, 25) := ⟨⟨by decide +kernel, by decide +kernel⟩, List.mem_of_getElem? (i := 609) (by decide +kernel), List.mem_of_getElem? (i := 737) (by decide +kernel), List.mem_of_getElem? (i := 738) (by decide +kernel)⟩
theorem lw_p60 : lw_okq (⟨"TwoHalvesModel", "comes", "([IIIZZ)I"⟩, 25) := ⟨⟨by decide +kernel, by decide +kernel⟩, List.mem_of_getElem? (i := 609) (by decide +kernel), List.mem_of_getElem? (i := 744) (by decide +kernel), List.mem_of_getElem? (i := 745) (by decide +kernel)⟩
theorem lw_p61 : lw_okq (⟨"TwoHalvesModel", "guessOf", "([III)I"⟩, 25) := ⟨⟨by decide +kernel, by decide +kernel⟩, List.mem_of_getElem? (i := 609) (by decide +kernel), List.mem_of_getElem? (i := 751) (by decide +kernel), List.mem_of_getElem? (i := 752) (by decide +kernel)⟩
theorem lw_p62 : lw_okq (⟨"TwoHalvesModel", "fill", "(I)V"⟩, 25) := ⟨⟨by decide +kernel, by decide +kernel⟩, List.mem_of_getElem? (i := 609) (by decide +kernel), List.mem_of_getElem? (i := 755) (by decide +kernel), List.mem_of_getElem? (i := 756) (by decide +kernel)⟩
theorem lw_p63 : lw_okq (⟨"TwoHalvesModel", "missBy", "([II)I"⟩, 25) := ⟨⟨by decide +kernel, by decide +kernel⟩, List.mem_of_getElem? (i := 609) (by decide +kernel), List.mem_of_getElem? (i := 759) (by decide +kernel), List.mem_of_getElem? (i := 760) (by decide +kernel)⟩
def lw_privs_4 : List (MethodName × Nat) := [(⟨"TwoHalves$Seen", "add", "(II)Z"⟩, 3), (⟨"TwoHalves$Seen", "isSo", "(LTwoHalves$Outcome;)Z"⟩, 3), (⟨"TwoHalves", "tellMisses", "()V"⟩, 10), (⟨"TwoHalves$State", "paintBy", "(I)V"⟩, 8), (⟨"TwoHalves$Slots", "put", "(ILTwoHalves$State;)V"⟩, 2), (⟨"TwoHalves$Slots", "takeInto", "(ILTwoHalves$State;)Z"⟩, 2), (⟨"TwoHalvesModel", "readText", "()I"⟩, 25), (⟨"TwoHalvesModel", "take", "(I)Z"⟩, 25), (⟨"TwoHalvesModel", "hasRoomAsRead", "(I)Z"⟩, 25), (⟨"TwoHalvesModel", "isEmptyAsRead", "(I)Z"⟩, 25), (⟨"TwoHalvesModel", "blanks", "()I"⟩, 25), (⟨"TwoHalvesModel", "layOut", "([II)V"⟩, 25), (⟨"TwoHalvesModel", "comes", "([IIIZZ)I"⟩, 25), (⟨"TwoHalvesModel", "guessOf", "([III)I"⟩, 25), (⟨"TwoHalvesModel", "fill", "(I)V"⟩, 25), (⟨"TwoHalvesModel", "missBy", "([II)I"⟩, 25)]
theorem lw_r4 : ∀ q ∈ lw_privs_4, lw_okq q := List.forall_mem_cons.mpr ⟨lw_p48, List.forall_mem_cons.mpr ⟨lw_p49, List.forall_mem_cons.mpr ⟨lw_p50, List.forall_mem_cons.mpr ⟨lw_p51, List.forall_mem_cons.mpr ⟨lw_p52, List.forall_mem_cons.mpr ⟨lw_p53, List.forall_mem_cons.mpr ⟨lw_p54, List.forall_mem_cons.mpr ⟨lw_p55, List.forall_mem_cons.mpr ⟨lw_p56, List.forall_mem_cons.mpr ⟨lw_p57, List.forall_mem_cons.mpr ⟨lw_p58, List.forall_mem_cons.mpr ⟨lw_p59, List.forall_mem_cons.mpr ⟨lw_p60, List.forall_mem_cons.mpr ⟨lw_p61, List.forall_mem_cons.mpr ⟨lw_p62, List.forall_mem_cons.mpr ⟨lw_p63, fun _ h => absurd h List.not_mem_nil⟩⟩⟩⟩⟩⟩⟩⟩⟩⟩⟩⟩⟩⟩⟩⟩
theorem lw_p64 : lw_okq (⟨"TwoHalvesModel", "sideOf", "([II)I"⟩, 25) := ⟨⟨by decide +kernel, by decide +kernel⟩, List.mem_of_getElem? (i := 609) (by decide +kernel), List.mem_of_getElem? (i := 763) (by decide +kernel), List.mem_of_getElem? (i := 764) (by decide +kernel)⟩
theorem lw_p65 : lw_okq (⟨"TwoHalvesModel", "bestChange", "()I"⟩, 25) := ⟨⟨by decide +kernel, by decide +kernel⟩, List.mem_of_getElem? (i := 609) (by decide +kernel), List.mem_of_getElem? (i := 767) (by decide +kernel), List.mem_of_getElem? (i := 768) (by decide +kernel)⟩
theorem lw_p66 : lw_okq (⟨"TwoHalvesModel", "sides", "([I)I"⟩, 25) := ⟨⟨by decide +kernel, by decide +kernel⟩, List.mem_of_getElem? (i := 609) (by decide +kernel), List.mem_of_getElem? (i := 771) (by decide +kernel), List.mem_of_getElem? (i := 772) (by decide +kernel)⟩
theorem lw_p67 : lw_okq (⟨"TwoHalvesModel", "bestShift", "()I"⟩, 25) := ⟨⟨by decide +kernel, by decide +kernel⟩, List.mem_of_getElem? (i := 609) (by decide +kernel), List.mem_of_getElem? (i := 781) (by decide +kernel), List.mem_of_getElem? (i := 782) (by decide +kernel)⟩
theorem lw_p68 : lw_okq (⟨"TwoHalvesModel", "band", "()I"⟩, 25) := ⟨⟨by decide +kernel, by decide +kernel⟩, List.mem_of_getElem? (i := 609) (by decide +kernel), List.mem_of_getElem? (i := 785) (by decide +kernel), List.mem_of_getElem? (i := 786) (by decide +kernel)⟩
theorem lw_p69 : lw_okq (⟨"TwoHalvesModel", "layOn", "([II)Z"⟩, 25) := ⟨⟨by decide +kernel, by decide +kernel⟩, List.mem_of_getElem? (i := 609) (by decide +kernel), List.mem_of_getElem? (i := 789) (by decide +kernel), List.mem_of_getElem? (i := 790) (by decide +kernel)⟩
theorem lw_p70 : lw_okq (⟨"TwoHalvesModel", "isShade", "(I)Z"⟩, 25) := ⟨⟨by decide +kernel, by decide +kernel⟩, List.mem_of_getElem? (i := 609) (by decide +kernel), List.mem_of_getElem? (i := 797) (by decide +kernel), List.mem_of_getElem? (i := 798) (by decide +kernel)⟩
theorem lw_p71 : lw_okq (⟨"TwoHalvesModel", "howOften", "(I)I"⟩, 25) := ⟨⟨by decide +kernel, by decide +kernel⟩, List.mem_of_getElem? (i := 609) (by decide +kernel), List.mem_of_getElem? (i := 801) (by decide +kernel), List.mem_of_getElem? (i := 802) (by decide +kernel)⟩
theorem lw_p72 : lw_okq (⟨"TwoHalvesModel", "isCell", "(II)Z"⟩, 25) := ⟨⟨by decide +kernel, by decide +kernel⟩, List.mem_of_getElem? (i := 609) (by decide +kernel), List.mem_of_getElem? (i := 809) (by decide +kernel), List.mem_of_getElem? (i := 810) (by decide +kernel)⟩
theorem lw_p73 : lw_okq (⟨"TwoHalvesModel", "shadeAt", "(I)I"⟩, 25) := ⟨⟨by decide +kernel, by decide +kernel⟩, List.mem_of_getElem? (i := 609) (by decide +kernel), List.mem_of_getElem? (i := 813) (by decide +kernel), List.mem_of_getElem? (i := 814) (by decide +kernel)⟩
theorem lw_p74 : lw_okq (⟨"TwoHalvesModel", "note", "()V"⟩, 25) := ⟨⟨by decide +kernel, by decide +kernel⟩, List.mem_of_getElem? (i := 609) (by decide +kernel), List.mem_of_getElem? (i := 833) (by decide +kernel), List.mem_of_getElem? (i := 834) (by decide +kernel)⟩
theorem lw_p75 : lw_okq (⟨"TwoHalvesModel", "judged", "(III)Z"⟩, 25) := ⟨⟨by decide +kernel, by decide +kernel⟩, List.mem_of_getElem? (i := 609) (by decide +kernel), List.mem_of_getElem? (i := 876) (by decide +kernel), List.mem_of_getElem? (i := 877) (by decide +kernel)⟩
def lw_privs_5 : List (MethodName × Nat) := [(⟨"TwoHalvesModel", "sideOf", "([II)I"⟩, 25), (⟨"TwoHalvesModel", "bestChange", "()I"⟩, 25), (⟨"TwoHalvesModel", "sides", "([I)I"⟩, 25), (⟨"TwoHalvesModel", "bestShift", "()I"⟩, 25), (⟨"TwoHalvesModel", "band", "()I"⟩, 25), (⟨"TwoHalvesModel", "layOn", "([II)Z"⟩, 25), (⟨"TwoHalvesModel", "isShade", "(I)Z"⟩, 25), (⟨"TwoHalvesModel", "howOften", "(I)I"⟩, 25), (⟨"TwoHalvesModel", "isCell", "(II)Z"⟩, 25), (⟨"TwoHalvesModel", "shadeAt", "(I)I"⟩, 25), (⟨"TwoHalvesModel", "note", "()V"⟩, 25), (⟨"TwoHalvesModel", "judged", "(III)Z"⟩, 25)]
theorem lw_r5 : ∀ q ∈ lw_privs_5, lw_okq q := List.forall_mem_cons.mpr ⟨lw_p64, List.forall_mem_cons.mpr ⟨lw_p65, List.forall_mem_cons.mpr ⟨lw_p66, List.forall_mem_cons.mpr ⟨lw_p67, List.forall_mem_cons.mpr ⟨lw_p68, List.forall_mem_cons.mpr ⟨lw_p69, List.forall_mem_cons.mpr ⟨lw_p70, List.forall_mem_cons.mpr ⟨lw_p71, List.forall_mem_cons.mpr ⟨lw_p72, List.forall_mem_cons.mpr ⟨lw_p73, List.forall_mem_cons.mpr ⟨lw_p74, List.forall_mem_cons.mpr ⟨lw_p75, fun _ h => absurd h List.not_mem_nil⟩⟩⟩⟩⟩⟩⟩⟩⟩⟩⟩⟩
def lw_privs : List (MethodName × Nat) := lw_privs_1 ++ (lw_privs_2 ++ (lw_privs_3 ++ (lw_privs_4 ++ (lw_privs_5))))
def lw_tbl : List Cond := k2_sels lw_privs ++ tables_1
theorem lw_privs_ok : ∀ q ∈ lw_privs, lw_okq q := by
  show ∀ q ∈ lw_privs_1 ++ (lw_privs_2 ++ (lw_privs_3 ++ (lw_privs_4 ++ (lw_privs_5)))), lw_okq q
  exact List.forall_mem_append.mpr ⟨lw_r1, List.forall_mem_append.mpr ⟨lw_r2, List.forall_mem_append.mpr ⟨lw_r3, List.forall_mem_append.mpr ⟨lw_r4, lw_r5⟩⟩⟩⟩
-- ===== end of PART A; then your names; then what follows =====
end
section
/-- a method: its name, its bytes, its locals, what it answers, its class -/
abbrev Mth : Type := MethodName × ByteArray × Nat × Option FieldType × String
def RX0 : String := "TwoHalves$Acts"
def TX0 : u_T := fun k => match k with
  | 0 => ("TwoHalves$Acts", "ahead", "[LTwoHalves$State;", true)
  | 1 => ("TwoHalves$Acts", "first", "I", false)
  | _ => ("TwoHalves$Acts", "size", "I", false)
def tyX0 : Nat → FieldType := fun k => match k with
  | 0 => .array (.object "TwoHalves$State")
  | 1 => .int
  | _ => .int
theorem nmX0 : ∀ a, a < 3 → ∀ b, b < 3 → a ≠ b → (TX0 a).2.1 ≠ (TX0 b).2.1 := by decide +kernel
theorem tyX0_ok : ∀ k, k < 3 → parseFieldDescriptor (TX0 k).2.2.1 = some (tyX0 k) := by decide +kernel
abbrev cX0_init : ByteArray := prog_2_method_1_code
def yX0_init : MethodName := ⟨RX0, "<init>", "()V"⟩
abbrev cX0_remember : ByteArray := prog_2_method_2_code
def yX0_remember : MethodName := ⟨RX0, "remember", "(LTwoHalves$State;)V"⟩
abbrev cX0_takeBackInto : ByteArray := prog_2_method_3_code
def yX0_takeBackInto : MethodName := ⟨RX0, "takeBackInto", "(LTwoHalves$State;)Z"⟩
abbrev cX0_forgetAll : ByteArray := prog_2_method_4_code
def yX0_forgetAll : MethodName := ⟨RX0, "forgetAll", "()V"⟩
def RX1 : String := "TwoHalves$Guesses"
def TX1 : u_T := fun k => match k with
  | 0 => ("TwoHalves$Guesses", "counts", "[I", true)
  | 1 => ("TwoHalves$Guesses", "sums", "[I", true)
  | 2 => ("TwoHalves$Guesses", "best", "[I", true)
  | _ => ("TwoHalves$Guesses", "sides", "[I", true)
def tyX1 : Nat → FieldType := fun k => match k with
  | 0 => .array .int
  | 1 => .array .int
  | 2 => .array .int
  | _ => .array .int
theorem nmX1 : ∀ a, a < 4 → ∀ b, b < 4 → a ≠ b → (TX1 a).2.1 ≠ (TX1 b).2.1 := by decide +kernel
theorem tyX1_ok : ∀ k, k < 4 → parseFieldDescriptor (TX1 k).2.2.1 = some (tyX1 k) := by decide +kernel
abbrev cX1_init : ByteArray := prog_3_method_1_code
def yX1_init : MethodName := ⟨RX1, "<init>", "()V"⟩
abbrev cX1_take : ByteArray := prog_3_method_2_code
def yX1_take : MethodName := ⟨RX1, "take", "(LTwoHalves$State;)V"⟩
abbrev cX1_count : ByteArray := prog_3_method_3_code
def yX1_count : MethodName := ⟨RX1, "count", "(II)V"⟩
abbrev cX1_nearest : ByteArray := prog_3_method_4_code
def yX1_nearest : MethodName := ⟨RX1, "nearest", "(II)I"⟩
abbrev cX1_takeSides : ByteArray := prog_3_method_5_code
def yX1_takeSides : MethodName := ⟨RX1, "takeSides", "(LTwoHalves$State;)V"⟩
abbrev cX1_of : ByteArray := prog_3_method_6_code
def yX1_of : MethodName := ⟨RX1, "of", "(II)I"⟩
abbrev cX1_side : ByteArray := prog_3_method_7_code
def yX1_side : MethodName := ⟨RX1, "side", "(I)I"⟩
def RX2 : String := "TwoHalves$Outcome"
def TX2 : u_T := fun k => match k with
  | 0 => ("TwoHalves$Outcome", "guesses", "LTwoHalves$Guesses;", true)
  | 1 => ("TwoHalves$Outcome", "dots", "[I", true)
  | _ => ("TwoHalves$Outcome", "blank", "I", false)
def tyX2 : Nat → FieldType := fun k => match k with
  | 0 => .object "TwoHalves$Guesses"
  | 1 => .array .int
  | _ => .int
theorem nmX2 : ∀ a, a < 3 → ∀ b, b < 3 → a ≠ b → (TX2 a).2.1 ≠ (TX2 b).2.1 := by decide +kernel
theorem tyX2_ok : ∀ k, k < 3 → parseFieldDescriptor (TX2 k).2.2.1 = some (tyX2 k) := by decide +kernel
abbrev cX2_init : ByteArray := prog_4_method_1_code
def yX2_init : MethodName := ⟨RX2, "<init>", "()V"⟩
abbrev cX2_missBy : ByteArray := prog_4_method_2_code
def yX2_missBy : MethodName := ⟨RX2, "missBy", "(LTwoHalves$State;II)I"⟩
abbrev cX2_send : ByteArray := prog_4_method_3_code
def yX2_send : MethodName := ⟨RX2, "send", "(LTwoHalves$State;II)V"⟩
abbrev cX2_came : ByteArray := prog_4_method_4_code
def yX2_came : MethodName := ⟨RX2, "came", "(II)Z"⟩
abbrev cX2_isBlank : ByteArray := prog_4_method_5_code
def yX2_isBlank : MethodName := ⟨RX2, "isBlank", "(I)Z"⟩
abbrev cX2_fill : ByteArray := prog_4_method_6_code
def yX2_fill : MethodName := ⟨RX2, "fill", "(LTwoHalves$State;IZZ)V"⟩
abbrev cX2_fillBlank : ByteArray := prog_4_method_7_code
def yX2_fillBlank : MethodName := ⟨RX2, "fillBlank", "(I)V"⟩
abbrev cX2_between : ByteArray := prog_4_method_8_code
def yX2_between : MethodName := ⟨RX2, "between", "(III)I"⟩
def RX3 : String := "TwoHalves$Seen"
def TX3 : u_T := fun k => match k with
  | 0 => ("TwoHalves$Seen", "places", "[I", true)
  | 1 => ("TwoHalves$Seen", "values", "[I", true)
  | _ => ("TwoHalves$Seen", "size", "I", false)
def tyX3 : Nat → FieldType := fun k => match k with
  | 0 => .array .int
  | 1 => .array .int
  | _ => .int
theorem nmX3 : ∀ a, a < 3 → ∀ b, b < 3 → a ≠ b → (TX3 a).2.1 ≠ (TX3 b).2.1 := by decide +kernel
theorem tyX3_ok : ∀ k, k < 3 → parseFieldDescriptor (TX3 k).2.2.1 = some (tyX3 k) := by decide +kernel
abbrev cX3_init : ByteArray := prog_5_method_1_code
def yX3_init : MethodName := ⟨RX3, "<init>", "()V"⟩
abbrev cX3_add : ByteArray := prog_5_method_2_code
def yX3_add : MethodName := ⟨RX3, "add", "(II)Z"⟩
abbrev cX3_isSo : ByteArray := prog_5_method_3_code
def yX3_isSo : MethodName := ⟨RX3, "isSo", "(LTwoHalves$Outcome;)Z"⟩
def RX4 : String := "TwoHalves$Slots"
def TX4 : u_T := fun k => match k with
  | 0 => ("TwoHalves$Slots", "kept", "[LTwoHalves$State;", true)
  | _ => ("TwoHalves$Slots", "filled", "I", false)
def tyX4 : Nat → FieldType := fun k => match k with
  | 0 => .array (.object "TwoHalves$State")
  | _ => .int
theorem nmX4 : ∀ a, a < 2 → ∀ b, b < 2 → a ≠ b → (TX4 a).2.1 ≠ (TX4 b).2.1 := by decide +kernel
theorem tyX4_ok : ∀ k, k < 2 → parseFieldDescriptor (TX4 k).2.2.1 = some (tyX4 k) := by decide +kernel
abbrev cX4_init : ByteArray := prog_6_method_1_code
def yX4_init : MethodName := ⟨RX4, "<init>", "()V"⟩
abbrev cX4_put : ByteArray := prog_6_method_2_code
def yX4_put : MethodName := ⟨RX4, "put", "(ILTwoHalves$State;)V"⟩
abbrev cX4_takeInto : ByteArray := prog_6_method_3_code
def yX4_takeInto : MethodName := ⟨RX4, "takeInto", "(ILTwoHalves$State;)Z"⟩
abbrev cX4_forgetAll : ByteArray := prog_6_method_4_code
def yX4_forgetAll : MethodName := ⟨RX4, "forgetAll", "()V"⟩
def RX5 : String := "TwoHalves$State"
def TX5 : u_T := fun k => match k with
  | 0 => ("TwoHalves$State", "rows", "I", false)
  | 1 => ("TwoHalves$State", "columns", "I", false)
  | 2 => ("TwoHalves$State", "shades", "I", false)
  | 3 => ("TwoHalves$State", "shift", "I", false)
  | 4 => ("TwoHalves$State", "lost", "I", false)
  | 5 => ("TwoHalves$State", "rowOf", "[I", true)
  | 6 => ("TwoHalves$State", "columnOf", "[I", true)
  | _ => ("TwoHalves$State", "dots", "[I", true)
def tyX5 : Nat → FieldType := fun k => match k with
  | 0 => .int
  | 1 => .int
  | 2 => .int
  | 3 => .int
  | 4 => .int
  | 5 => .array .int
  | 6 => .array .int
  | _ => .array .int
theorem nmX5 : ∀ a, a < 8 → ∀ b, b < 8 → a ≠ b → (TX5 a).2.1 ≠ (TX5 b).2.1 := by decide +kernel
theorem tyX5_ok : ∀ k, k < 8 → parseFieldDescriptor (TX5 k).2.2.1 = some (tyX5 k) := by decide +kernel
abbrev cX5_init : ByteArray := prog_7_method_1_code
def yX5_init : MethodName := ⟨RX5, "<init>", "()V"⟩
abbrev cX5_renew : ByteArray := prog_7_method_2_code
def yX5_renew : MethodName := ⟨RX5, "renew", "()V"⟩
abbrev cX5_copy : ByteArray := prog_7_method_3_code
def yX5_copy : MethodName := ⟨RX5, "copy", "(LTwoHalves$State;)V"⟩
abbrev cX5_tellRows : ByteArray := prog_7_method_4_code
def yX5_tellRows : MethodName := ⟨RX5, "tellRows", "(I)Z"⟩
abbrev cX5_tellColumns : ByteArray := prog_7_method_5_code
def yX5_tellColumns : MethodName := ⟨RX5, "tellColumns", "(I)Z"⟩
abbrev cX5_hasRoom : ByteArray := prog_7_method_6_code
def yX5_hasRoom : MethodName := ⟨RX5, "hasRoom", "()Z"⟩
abbrev cX5_tellRow : ByteArray := prog_7_method_7_code
def yX5_tellRow : MethodName := ⟨RX5, "tellRow", "(I)Z"⟩
abbrev cX5_tellColumn : ByteArray := prog_7_method_8_code
def yX5_tellColumn : MethodName := ⟨RX5, "tellColumn", "(I)Z"⟩
abbrev cX5_hasShade : ByteArray := prog_7_method_9_code
def yX5_hasShade : MethodName := ⟨RX5, "hasShade", "(I)Z"⟩
abbrev cX5_hasCell : ByteArray := prog_7_method_10_code
def yX5_hasCell : MethodName := ⟨RX5, "hasCell", "(II)Z"⟩
abbrev cX5_numbersOf : ByteArray := prog_7_method_11_code
def yX5_numbersOf : MethodName := ⟨RX5, "numbersOf", "(I)I"⟩
abbrev cX5_shadeIn : ByteArray := prog_7_method_12_code
def yX5_shadeIn : MethodName := ⟨RX5, "shadeIn", "(II)I"⟩
abbrev cX5_shadesInRow : ByteArray := prog_7_method_13_code
def yX5_shadesInRow : MethodName := ⟨RX5, "shadesInRow", "(I)I"⟩
abbrev cX5_timesPainted : ByteArray := prog_7_method_14_code
def yX5_timesPainted : MethodName := ⟨RX5, "timesPainted", "(I)I"⟩
abbrev cX5_put : ByteArray := prog_7_method_15_code
def yX5_put : MethodName := ⟨RX5, "put", "(III)V"⟩
abbrev cX5_swap : ByteArray := prog_7_method_16_code
def yX5_swap : MethodName := ⟨RX5, "swap", "(II)V"⟩
abbrev cX5_cellsWithin : ByteArray := prog_7_method_17_code
def yX5_cellsWithin : MethodName := ⟨RX5, "cellsWithin", "(I)I"⟩
abbrev cX5_layWithin : ByteArray := prog_7_method_18_code
def yX5_layWithin : MethodName := ⟨RX5, "layWithin", "(I)V"⟩
abbrev cX5_loseOrFind : ByteArray := prog_7_method_19_code
def yX5_loseOrFind : MethodName := ⟨RX5, "loseOrFind", "(I)V"⟩
abbrev cX5_paintBy : ByteArray := prog_7_method_20_code
def yX5_paintBy : MethodName := ⟨RX5, "paintBy", "(I)V"⟩
def RX6 : String := "TwoHalves$Text"
def TX6 : u_T := fun k => match k with
  | 0 => ("TwoHalves$Text", "letters", "[I", true)
  | _ => ("TwoHalves$Text", "length", "I", false)
def tyX6 : Nat → FieldType := fun k => match k with
  | 0 => .array .int
  | _ => .int
theorem nmX6 : ∀ a, a < 2 → ∀ b, b < 2 → a ≠ b → (TX6 a).2.1 ≠ (TX6 b).2.1 := by decide +kernel
theorem tyX6_ok : ∀ k, k < 2 → parseFieldDescriptor (TX6 k).2.2.1 = some (tyX6 k) := by decide +kernel
abbrev cX6_init : ByteArray := prog_8_method_1_code
def yX6_init : MethodName := ⟨RX6, "<init>", "()V"⟩
abbrev cX6_add : ByteArray := prog_8_method_2_code
def yX6_add : MethodName := ⟨RX6, "add", "(I)Z"⟩
abbrev cX6_readInto : ByteArray := prog_8_method_3_code
def yX6_readInto : MethodName := ⟨RX6, "readInto", "(LTwoHalves$State;)I"⟩
abbrev cX6_takes : ByteArray := prog_8_method_4_code
def yX6_takes : MethodName := ⟨RX6, "takes", "(LTwoHalves$State;II)Z"⟩
def RX7 : String := "TwoHalves"
def TX7 : u_T := fun k => match k with
  | 0 => ("TwoHalves", "text", "LTwoHalves$Text;", true)
  | 1 => ("TwoHalves", "now", "LTwoHalves$State;", true)
  | 2 => ("TwoHalves", "trial", "LTwoHalves$State;", true)
  | 3 => ("TwoHalves", "acts", "LTwoHalves$Acts;", true)
  | 4 => ("TwoHalves", "slots", "LTwoHalves$Slots;", true)
  | 5 => ("TwoHalves", "seen", "LTwoHalves$Seen;", true)
  | 6 => ("TwoHalves", "guesses", "LTwoHalves$Guesses;", true)
  | 7 => ("TwoHalves", "outcome", "LTwoHalves$Outcome;", true)
  | 8 => ("TwoHalves", "misses", "[I", true)
  | _ => ("TwoHalves", "theSeed", "J", false)
def tyX7 : Nat → FieldType := fun k => match k with
  | 0 => .object "TwoHalves$Text"
  | 1 => .object "TwoHalves$State"
  | 2 => .object "TwoHalves$State"
  | 3 => .object "TwoHalves$Acts"
  | 4 => .object "TwoHalves$Slots"
  | 5 => .object "TwoHalves$Seen"
  | 6 => .object "TwoHalves$Guesses"
  | 7 => .object "TwoHalves$Outcome"
  | 8 => .array .int
  | _ => .long
theorem nmX7 : ∀ a, a < 10 → ∀ b, b < 10 → a ≠ b → (TX7 a).2.1 ≠ (TX7 b).2.1 := by decide +kernel
theorem tyX7_ok : ∀ k, k < 10 → parseFieldDescriptor (TX7 k).2.2.1 = some (tyX7 k) := by decide +kernel
abbrev cX7_init : ByteArray := prog_1_method_1_code
def yX7_init : MethodName := ⟨RX7, "<init>", "()V"⟩
abbrev cX7_write : ByteArray := prog_1_method_2_code
def yX7_write : MethodName := ⟨RX7, "write", "(I)I"⟩
abbrev cX7_wipe : ByteArray := prog_1_method_3_code
def yX7_wipe : MethodName := ⟨RX7, "wipe", "()I"⟩
abbrev cX7_fault : ByteArray := prog_1_method_4_code
def yX7_fault : MethodName := ⟨RX7, "fault", "()I"⟩
abbrev cX7_map : ByteArray := prog_1_method_5_code
def yX7_map : MethodName := ⟨RX7, "map", "()I"⟩
abbrev cX7_about : ByteArray := prog_1_method_6_code
def yX7_about : MethodName := ⟨RX7, "about", "(I)I"⟩
abbrev cX7_shade : ByteArray := prog_1_method_7_code
def yX7_shade : MethodName := ⟨RX7, "shade", "(II)I"⟩
abbrev cX7_cell : ByteArray := prog_1_method_8_code
def yX7_cell : MethodName := ⟨RX7, "cell", "(II)I"⟩
abbrev cX7_guess : ByteArray := prog_1_method_9_code
def yX7_guess : MethodName := ⟨RX7, "guess", "(II)I"⟩
abbrev cX7_dot : ByteArray := prog_1_method_10_code
def yX7_dot : MethodName := ⟨RX7, "dot", "(IIZ)I"⟩
abbrev cX7_change : ByteArray := prog_1_method_11_code
def yX7_change : MethodName := ⟨RX7, "change", "(II)I"⟩
abbrev cX7_move : ByteArray := prog_1_method_12_code
def yX7_move : MethodName := ⟨RX7, "move", "(III)I"⟩
abbrev cX7_lay : ByteArray := prog_1_method_13_code
def yX7_lay : MethodName := ⟨RX7, "lay", "(I)I"⟩
abbrev cX7_paint : ByteArray := prog_1_method_14_code
def yX7_paint : MethodName := ⟨RX7, "paint", "(III)I"⟩
abbrev cX7_shift : ByteArray := prog_1_method_15_code
def yX7_shift : MethodName := ⟨RX7, "shift", "(I)I"⟩
abbrev cX7_lose : ByteArray := prog_1_method_16_code
def yX7_lose : MethodName := ⟨RX7, "lose", "(I)I"⟩
abbrev cX7_undo : ByteArray := prog_1_method_17_code
def yX7_undo : MethodName := ⟨RX7, "undo", "()I"⟩
abbrev cX7_miss : ByteArray := prog_1_method_18_code
def yX7_miss : MethodName := ⟨RX7, "miss", "(I)I"⟩
abbrev cX7_judge : ByteArray := prog_1_method_19_code
def yX7_judge : MethodName := ⟨RX7, "judge", "(IJ)I"⟩
abbrev cX7_see : ByteArray := prog_1_method_20_code
def yX7_see : MethodName := ⟨RX7, "see", "(III)I"⟩
abbrev cX7_unsee : ByteArray := prog_1_method_21_code
def yX7_unsee : MethodName := ⟨RX7, "unsee", "()I"⟩
abbrev cX7_which : ByteArray := prog_1_method_22_code
def yX7_which : MethodName := ⟨RX7, "which", "()I"⟩
abbrev cX7_share : ByteArray := prog_1_method_23_code
def yX7_share : MethodName := ⟨RX7, "share", "(IZ)I"⟩
abbrev cX7_chance : ByteArray := prog_1_method_24_code
def yX7_chance : MethodName := ⟨RX7, "chance", "(IIZ)I"⟩
abbrev cX7_mean : ByteArray := prog_1_method_25_code
def yX7_mean : MethodName := ⟨RX7, "mean", "(IZ)I"⟩
abbrev cX7_seed : ByteArray := prog_1_method_26_code
def yX7_seed : MethodName := ⟨RX7, "seed", "(J)J"⟩
abbrev cX7_drawn : ByteArray := prog_1_method_27_code
def yX7_drawn : MethodName := ⟨RX7, "drawn", "(I)I"⟩
abbrev cX7_keep : ByteArray := prog_1_method_28_code
def yX7_keep : MethodName := ⟨RX7, "keep", "(I)I"⟩
abbrev cX7_again : ByteArray := prog_1_method_29_code
def yX7_again : MethodName := ⟨RX7, "again", "(I)I"⟩
abbrev cX7_isDot : ByteArray := prog_1_method_30_code
def yX7_isDot : MethodName := ⟨RX7, "isDot", "(II)Z"⟩
abbrev cX7_isPack : ByteArray := prog_1_method_31_code
def yX7_isPack : MethodName := ⟨RX7, "isPack", "(I)Z"⟩
abbrev cX7_isShift : ByteArray := prog_1_method_32_code
def yX7_isShift : MethodName := ⟨RX7, "isShift", "(I)Z"⟩
abbrev cX7_isTenths : ByteArray := prog_1_method_33_code
def yX7_isTenths : MethodName := ⟨RX7, "isTenths", "(I)Z"⟩
abbrev cX7_isSlot : ByteArray := prog_1_method_34_code
def yX7_isSlot : MethodName := ⟨RX7, "isSlot", "(I)Z"⟩
abbrev cX7_blankNow : ByteArray := prog_1_method_35_code
def yX7_blankNow : MethodName := ⟨RX7, "blankNow", "()I"⟩
abbrev cX7_sideOf : ByteArray := prog_1_method_36_code
def yX7_sideOf : MethodName := ⟨RX7, "sideOf", "(I)I"⟩
abbrev cX7_bothSides : ByteArray := prog_1_method_37_code
def yX7_bothSides : MethodName := ⟨RX7, "bothSides", "(LTwoHalves$State;)I"⟩
abbrev cX7_bestChange : ByteArray := prog_1_method_38_code
def yX7_bestChange : MethodName := ⟨RX7, "bestChange", "()I"⟩
abbrev cX7_bestShift : ByteArray := prog_1_method_39_code
def yX7_bestShift : MethodName := ⟨RX7, "bestShift", "()I"⟩
abbrev cX7_greatestMiss : ByteArray := prog_1_method_40_code
def yX7_greatestMiss : MethodName := ⟨RX7, "greatestMiss", "(I)I"⟩
abbrev cX7_band : ByteArray := prog_1_method_41_code
def yX7_band : MethodName := ⟨RX7, "band", "()I"⟩
abbrev cX7_goesWell : ByteArray := prog_1_method_42_code
def yX7_goesWell : MethodName := ⟨RX7, "goesWell", "(III)Z"⟩
abbrev cX7_triedPack : ByteArray := prog_1_method_43_code
def yX7_triedPack : MethodName := ⟨RX7, "triedPack", "(I)Z"⟩
abbrev cX7_triedShift : ByteArray := prog_1_method_44_code
def yX7_triedShift : MethodName := ⟨RX7, "triedShift", "(I)Z"⟩
abbrev cX7_comesOutRight : ByteArray := prog_1_method_45_code
def yX7_comesOutRight : MethodName := ⟨RX7, "comesOutRight", "(I)Z"⟩
abbrev cX7_comesOutBlank : ByteArray := prog_1_method_46_code
def yX7_comesOutBlank : MethodName := ⟨RX7, "comesOutBlank", "(I)Z"⟩
abbrev cX7_triedChange : ByteArray := prog_1_method_47_code
def yX7_triedChange : MethodName := ⟨RX7, "triedChange", "(II)Z"⟩
abbrev cX7_tellMisses : ByteArray := prog_1_method_48_code
def yX7_tellMisses : MethodName := ⟨RX7, "tellMisses", "()V"⟩
abbrev cX7_likelihood : ByteArray := prog_1_method_49_code
def yX7_likelihood : MethodName := ⟨RX7, "likelihood", "(II)I"⟩
abbrev cX7_fraction : ByteArray := prog_1_method_50_code
def yX7_fraction : MethodName := ⟨RX7, "fraction", "(IIZ)I"⟩
abbrev cX7_commonDivisor : ByteArray := prog_1_method_51_code
def yX7_commonDivisor : MethodName := ⟨RX7, "commonDivisor", "(II)I"⟩
abbrev cX7_square : ByteArray := prog_1_method_52_code
def yX7_square : MethodName := ⟨RX7, "square", "(I)I"⟩
def RX8 : String := "TwoHalvesModel"
def TX8 : u_T := fun k => match k with
  | 0 => ("TwoHalvesModel", "text", "[I", true)
  | 1 => ("TwoHalvesModel", "length", "I", false)
  | 2 => ("TwoHalvesModel", "rows", "I", false)
  | 3 => ("TwoHalvesModel", "columns", "I", false)
  | 4 => ("TwoHalvesModel", "shades", "I", false)
  | 5 => ("TwoHalvesModel", "now", "[I", true)
  | 6 => ("TwoHalvesModel", "trial", "[I", true)
  | 7 => ("TwoHalvesModel", "diary", "[I", true)
  | 8 => ("TwoHalvesModel", "acts", "I", false)
  | 9 => ("TwoHalvesModel", "next", "I", false)
  | 10 => ("TwoHalvesModel", "kept", "[I", true)
  | 11 => ("TwoHalvesModel", "isKept", "[Z", true)
  | 12 => ("TwoHalvesModel", "seenAt", "[I", true)
  | 13 => ("TwoHalvesModel", "seenIs", "[I", true)
  | 14 => ("TwoHalvesModel", "seen", "I", false)
  | 15 => ("TwoHalvesModel", "seed", "J", false)
  | 16 => ("TwoHalvesModel", "out", "[I", true)
  | 17 => ("TwoHalvesModel", "blank", "[Z", true)
  | 18 => ("TwoHalvesModel", "worth", "[I", true)
  | 19 => ("TwoHalvesModel", "readRows", "I", false)
  | 20 => ("TwoHalvesModel", "readColumns", "I", false)
  | 21 => ("TwoHalvesModel", "readShades", "I", false)
  | 22 => ("TwoHalvesModel", "readCells", "[I", true)
  | 23 => ("TwoHalvesModel", "part", "I", false)
  | _ => ("TwoHalvesModel", "readRow", "I", false)
def tyX8 : Nat → FieldType := fun k => match k with
  | 0 => .array .int
  | 1 => .int
  | 2 => .int
  | 3 => .int
  | 4 => .int
  | 5 => .array .int
  | 6 => .array .int
  | 7 => .array .int
  | 8 => .int
  | 9 => .int
  | 10 => .array .int
  | 11 => .array .boolean
  | 12 => .array .int
  | 13 => .array .int
  | 14 => .int
  | 15 => .long
  | 16 => .array .int
  | 17 => .array .boolean
  | 18 => .array .int
  | 19 => .int
  | 20 => .int
  | 21 => .int
  | 22 => .array .int
  | 23 => .int
  | _ => .int
theorem nmX8 : ∀ a, a < 25 → ∀ b, b < 25 → a ≠ b → (TX8 a).2.1 ≠ (TX8 b).2.1 := by decide +kernel
theorem tyX8_ok : ∀ k, k < 25 → parseFieldDescriptor (TX8 k).2.2.1 = some (tyX8 k) := by decide +kernel
abbrev cX8_init : ByteArray := prog_10_method_1_code
def yX8_init : MethodName := ⟨RX8, "<init>", "()V"⟩
abbrev cX8_copy : ByteArray := prog_10_method_3_code
def yX8_copy : MethodName := ⟨RX8, "copy", "([I[I)V"⟩
abbrev cX8_in : ByteArray := prog_10_method_4_code
def yX8_in : MethodName := ⟨RX8, "in", "(JJJ)Z"⟩
abbrev cX8_has : ByteArray := prog_10_method_5_code
def yX8_has : MethodName := ⟨RX8, "has", "(II)Z"⟩
abbrev cX8_ones : ByteArray := prog_10_method_6_code
def yX8_ones : MethodName := ⟨RX8, "ones", "(I)I"⟩
abbrev cX8_power : ByteArray := prog_10_method_7_code
def yX8_power : MethodName := ⟨RX8, "power", "(II)I"⟩
abbrev cX8_factorial : ByteArray := prog_10_method_8_code
def yX8_factorial : MethodName := ⟨RX8, "factorial", "(I)I"⟩
abbrev cX8_fraction : ByteArray := prog_10_method_9_code
def yX8_fraction : MethodName := ⟨RX8, "fraction", "(IIZ)I"⟩
abbrev cX8_isShade : ByteArray := prog_10_method_10_code
def yX8_isShade : MethodName := ⟨RX8, "isShade", "(I)Z"⟩
abbrev cX8_isFour : ByteArray := prog_10_method_11_code
def yX8_isFour : MethodName := ⟨RX8, "isFour", "(I)Z"⟩
abbrev cX8_write : ByteArray := prog_10_method_12_code
def yX8_write : MethodName := ⟨RX8, "write", "(I)I"⟩
abbrev cX8_wipe : ByteArray := prog_10_method_13_code
def yX8_wipe : MethodName := ⟨RX8, "wipe", "()I"⟩
abbrev cX8_isEmptyAsRead : ByteArray := prog_10_method_14_code
def yX8_isEmptyAsRead : MethodName := ⟨RX8, "isEmptyAsRead", "(I)Z"⟩
abbrev cX8_hasRoomAsRead : ByteArray := prog_10_method_15_code
def yX8_hasRoomAsRead : MethodName := ⟨RX8, "hasRoomAsRead", "(I)Z"⟩
abbrev cX8_take : ByteArray := prog_10_method_16_code
def yX8_take : MethodName := ⟨RX8, "take", "(I)Z"⟩
abbrev cX8_readText : ByteArray := prog_10_method_17_code
def yX8_readText : MethodName := ⟨RX8, "readText", "()I"⟩
abbrev cX8_fault : ByteArray := prog_10_method_18_code
def yX8_fault : MethodName := ⟨RX8, "fault", "()I"⟩
abbrev cX8_map : ByteArray := prog_10_method_19_code
def yX8_map : MethodName := ⟨RX8, "map", "()I"⟩
abbrev cX8_lineOf : ByteArray := prog_10_method_20_code
def yX8_lineOf : MethodName := ⟨RX8, "lineOf", "(II)I"⟩
abbrev cX8_guessOf : ByteArray := prog_10_method_21_code
def yX8_guessOf : MethodName := ⟨RX8, "guessOf", "([III)I"⟩
abbrev cX8_sideOf : ByteArray := prog_10_method_22_code
def yX8_sideOf : MethodName := ⟨RX8, "sideOf", "([II)I"⟩
abbrev cX8_sides : ByteArray := prog_10_method_23_code
def yX8_sides : MethodName := ⟨RX8, "sides", "([I)I"⟩
abbrev cX8_comes : ByteArray := prog_10_method_24_code
def yX8_comes : MethodName := ⟨RX8, "comes", "([IIIZZ)I"⟩
abbrev cX8_fill : ByteArray := prog_10_method_25_code
def yX8_fill : MethodName := ⟨RX8, "fill", "(I)V"⟩
abbrev cX8_layOut : ByteArray := prog_10_method_26_code
def yX8_layOut : MethodName := ⟨RX8, "layOut", "([II)V"⟩
abbrev cX8_missBy : ByteArray := prog_10_method_27_code
def yX8_missBy : MethodName := ⟨RX8, "missBy", "([II)I"⟩
abbrev cX8_blanks : ByteArray := prog_10_method_28_code
def yX8_blanks : MethodName := ⟨RX8, "blanks", "()I"⟩
abbrev cX8_changeOn : ByteArray := prog_10_method_29_code
def yX8_changeOn : MethodName := ⟨RX8, "changeOn", "([III)V"⟩
abbrev cX8_bestChange : ByteArray := prog_10_method_30_code
def yX8_bestChange : MethodName := ⟨RX8, "bestChange", "()I"⟩
abbrev cX8_bestShift : ByteArray := prog_10_method_31_code
def yX8_bestShift : MethodName := ⟨RX8, "bestShift", "()I"⟩
abbrev cX8_layOn : ByteArray := prog_10_method_32_code
def yX8_layOn : MethodName := ⟨RX8, "layOn", "([II)Z"⟩
abbrev cX8_band : ByteArray := prog_10_method_33_code
def yX8_band : MethodName := ⟨RX8, "band", "()I"⟩
abbrev cX8_about : ByteArray := prog_10_method_34_code
def yX8_about : MethodName := ⟨RX8, "about", "(I)I"⟩
abbrev cX8_howOften : ByteArray := prog_10_method_35_code
def yX8_howOften : MethodName := ⟨RX8, "howOften", "(I)I"⟩
abbrev cX8_shade : ByteArray := prog_10_method_36_code
def yX8_shade : MethodName := ⟨RX8, "shade", "(II)I"⟩
abbrev cX8_shadeAt : ByteArray := prog_10_method_37_code
def yX8_shadeAt : MethodName := ⟨RX8, "shadeAt", "(I)I"⟩
abbrev cX8_isCell : ByteArray := prog_10_method_38_code
def yX8_isCell : MethodName := ⟨RX8, "isCell", "(II)Z"⟩
abbrev cX8_cell : ByteArray := prog_10_method_39_code
def yX8_cell : MethodName := ⟨RX8, "cell", "(II)I"⟩
abbrev cX8_guess : ByteArray := prog_10_method_40_code
def yX8_guess : MethodName := ⟨RX8, "guess", "(II)I"⟩
abbrev cX8_dot : ByteArray := prog_10_method_41_code
def yX8_dot : MethodName := ⟨RX8, "dot", "(IIZ)I"⟩
abbrev cX8_note : ByteArray := prog_10_method_42_code
def yX8_note : MethodName := ⟨RX8, "note", "()V"⟩
abbrev cX8_change : ByteArray := prog_10_method_43_code
def yX8_change : MethodName := ⟨RX8, "change", "(II)I"⟩
abbrev cX8_move : ByteArray := prog_10_method_44_code
def yX8_move : MethodName := ⟨RX8, "move", "(III)I"⟩
abbrev cX8_lay : ByteArray := prog_10_method_45_code
def yX8_lay : MethodName := ⟨RX8, "lay", "(I)I"⟩
abbrev cX8_paint : ByteArray := prog_10_method_46_code
def yX8_paint : MethodName := ⟨RX8, "paint", "(III)I"⟩
abbrev cX8_shift : ByteArray := prog_10_method_47_code
def yX8_shift : MethodName := ⟨RX8, "shift", "(I)I"⟩
abbrev cX8_lose : ByteArray := prog_10_method_48_code
def yX8_lose : MethodName := ⟨RX8, "lose", "(I)I"⟩
abbrev cX8_undo : ByteArray := prog_10_method_49_code
def yX8_undo : MethodName := ⟨RX8, "undo", "()I"⟩
abbrev cX8_miss : ByteArray := prog_10_method_50_code
def yX8_miss : MethodName := ⟨RX8, "miss", "(I)I"⟩
abbrev cX8_judged : ByteArray := prog_10_method_51_code
def yX8_judged : MethodName := ⟨RX8, "judged", "(III)Z"⟩
abbrev cX8_thousands : ByteArray := prog_10_method_52_code
def yX8_thousands : MethodName := ⟨RX8, "thousands", "(I)J"⟩
abbrev cX8_judge : ByteArray := prog_10_method_53_code
def yX8_judge : MethodName := ⟨RX8, "judge", "(IJ)I"⟩
abbrev cX8_see : ByteArray := prog_10_method_54_code
def yX8_see : MethodName := ⟨RX8, "see", "(III)I"⟩
abbrev cX8_unsee : ByteArray := prog_10_method_55_code
def yX8_unsee : MethodName := ⟨RX8, "unsee", "()I"⟩
abbrev cX8_which : ByteArray := prog_10_method_56_code
def yX8_which : MethodName := ⟨RX8, "which", "()I"⟩
abbrev cX8_share : ByteArray := prog_10_method_57_code
def yX8_share : MethodName := ⟨RX8, "share", "(IZ)I"⟩
abbrev cX8_chance : ByteArray := prog_10_method_58_code
def yX8_chance : MethodName := ⟨RX8, "chance", "(IIZ)I"⟩
abbrev cX8_mean : ByteArray := prog_10_method_59_code
def yX8_mean : MethodName := ⟨RX8, "mean", "(IZ)I"⟩
abbrev cX8_seed : ByteArray := prog_10_method_60_code
def yX8_seed : MethodName := ⟨RX8, "seed", "(J)J"⟩
abbrev cX8_drawn : ByteArray := prog_10_method_61_code
def yX8_drawn : MethodName := ⟨RX8, "drawn", "(I)I"⟩
abbrev cX8_keep : ByteArray := prog_10_method_62_code
def yX8_keep : MethodName := ⟨RX8, "keep", "(I)I"⟩
abbrev cX8_again : ByteArray := prog_10_method_63_code
def yX8_again : MethodName := ⟨RX8, "again", "(I)I"⟩
def RJ6 : String := "java/lang/Integer"
abbrev cJ6_bitCount_0f7a4 : ByteArray := prog_11_method_49_code
def yJ6_bitCount_0f7a4 : MethodName := ⟨RJ6, "bitCount", "(I)I"⟩
def RJ9 : String := "java/lang/Math"
abbrev cJ9_abs_0f7a4 : ByteArray := prog_12_method_59_code
def yJ9_abs_0f7a4 : MethodName := ⟨RJ9, "abs", "(I)I"⟩
abbrev cJ9_max_7cf53 : ByteArray := prog_12_method_65_code
def yJ9_max_7cf53 : MethodName := ⟨RJ9, "max", "(II)I"⟩
def RJ10 : String := "java/lang/System"
def RJ7 : String := "java/util/Arrays"
abbrev cJ7_fill_53178 : ByteArray := prog_14_method_103_code
def yJ7_fill_53178 : MethodName := ⟨RJ7, "fill", "([II)V"⟩
def RL : String := "TwoHalvesLaw"
abbrev cL_law : ByteArray := code
def yL_law : MethodName := ⟨RL, "law", "([I)Z"⟩
abbrev vwCl : List vw_C := [(RX0, TX0, 3), (RX1, TX1, 4), (RX2, TX2, 3), (RX3, TX3, 3), (RX4, TX4, 2), (RX5, TX5, 8), (RX6, TX6, 2), (RX7, TX7, 10), (RX8, TX8, 25)]
def MX5_init : Mth := (yX5_init, cX5_init, 1, none, RX5)
def MX0_init : Mth := (yX0_init, cX0_init, 2, none, RX0)
def MX5_copy : Mth := (yX5_copy, cX5_copy, 2, none, RX5)
def MX0_remember : Mth := (yX0_remember, cX0_remember, 2, none, RX0)
def MX0_takeBackInto : Mth := (yX0_takeBackInto, cX0_takeBackInto, 2, (some .boolean), RX0)
def MX0_forgetAll : Mth := (yX0_forgetAll, cX0_forgetAll, 1, none, RX0)
def MX1_init : Mth := (yX1_init, cX1_init, 1, none, RX1)
def MJ7_fill_53178 : Mth := (yJ7_fill_53178, cJ7_fill_53178, 4, none, RJ7)
def MX1_count : Mth := (yX1_count, cX1_count, 3, none, RX1)
def MX1_nearest : Mth := (yX1_nearest, cX1_nearest, 2, (some .int), RX1)
def MX7_square : Mth := (yX7_square, cX7_square, 1, (some .int), RX7)
def MX1_takeSides : Mth := (yX1_takeSides, cX1_takeSides, 3, none, RX1)
def MX1_take : Mth := (yX1_take, cX1_take, 3, none, RX1)
def MX1_of : Mth := (yX1_of, cX1_of, 3, (some .int), RX1)
def MX1_side : Mth := (yX1_side, cX1_side, 2, (some .int), RX1)
def MX2_init : Mth := (yX2_init, cX2_init, 1, none, RX2)
def MX2_came : Mth := (yX2_came, cX2_came, 2, (some .boolean), RX2)
def MX5_hasShade : Mth := (yX5_hasShade, cX5_hasShade, 2, (some .boolean), RX5)
def MX2_fill : Mth := (yX2_fill, cX2_fill, 7, none, RX2)
def MX2_isBlank : Mth := (yX2_isBlank, cX2_isBlank, 2, (some .boolean), RX2)
def MX2_between : Mth := (yX2_between, cX2_between, 4, (some .int), RX2)
def MX2_fillBlank : Mth := (yX2_fillBlank, cX2_fillBlank, 5, none, RX2)
def MX2_send : Mth := (yX2_send, cX2_send, 7, none, RX2)
def MX2_missBy : Mth := (yX2_missBy, cX2_missBy, 6, (some .int), RX2)
def MX3_init : Mth := (yX3_init, cX3_init, 1, none, RX3)
def MX3_add : Mth := (yX3_add, cX3_add, 3, (some .boolean), RX3)
def MX3_isSo : Mth := (yX3_isSo, cX3_isSo, 3, (some .boolean), RX3)
def MX4_init : Mth := (yX4_init, cX4_init, 2, none, RX4)
def MX4_put : Mth := (yX4_put, cX4_put, 3, none, RX4)
def MX4_takeInto : Mth := (yX4_takeInto, cX4_takeInto, 3, (some .boolean), RX4)
def MX4_forgetAll : Mth := (yX4_forgetAll, cX4_forgetAll, 1, none, RX4)
def MX5_renew : Mth := (yX5_renew, cX5_renew, 1, none, RX5)
def MX5_tellRows : Mth := (yX5_tellRows, cX5_tellRows, 2, (some .boolean), RX5)
def MX5_tellColumns : Mth := (yX5_tellColumns, cX5_tellColumns, 2, (some .boolean), RX5)
def MX5_hasRoom : Mth := (yX5_hasRoom, cX5_hasRoom, 1, (some .boolean), RX5)
def MX5_shadesInRow : Mth := (yX5_shadesInRow, cX5_shadesInRow, 4, (some .int), RX5)
def MX5_tellRow : Mth := (yX5_tellRow, cX5_tellRow, 2, (some .boolean), RX5)
def MX5_shadeIn : Mth := (yX5_shadeIn, cX5_shadeIn, 4, (some .int), RX5)
def MX5_tellColumn : Mth := (yX5_tellColumn, cX5_tellColumn, 2, (some .boolean), RX5)
def MX5_hasCell : Mth := (yX5_hasCell, cX5_hasCell, 3, (some .boolean), RX5)
def MX5_numbersOf : Mth := (yX5_numbersOf, cX5_numbersOf, 2, (some .int), RX5)
def MX5_timesPainted : Mth := (yX5_timesPainted, cX5_timesPainted, 4, (some .int), RX5)
def MX5_put : Mth := (yX5_put, cX5_put, 4, none, RX5)
def MX5_swap : Mth := (yX5_swap, cX5_swap, 5, none, RX5)
def MX5_cellsWithin : Mth := (yX5_cellsWithin, cX5_cellsWithin, 5, (some .int), RX5)
def MX5_layWithin : Mth := (yX5_layWithin, cX5_layWithin, 6, none, RX5)
def MX5_loseOrFind : Mth := (yX5_loseOrFind, cX5_loseOrFind, 2, none, RX5)
def MX5_paintBy : Mth := (yX5_paintBy, cX5_paintBy, 2, none, RX5)
def MX6_init : Mth := (yX6_init, cX6_init, 1, none, RX6)
def MX6_add : Mth := (yX6_add, cX6_add, 2, (some .boolean), RX6)
def MX6_takes : Mth := (yX6_takes, cX6_takes, 4, (some .boolean), RX6)
def MX6_readInto : Mth := (yX6_readInto, cX6_readInto, 3, (some .int), RX6)
def MX7_init : Mth := (yX7_init, cX7_init, 1, none, RX7)
def MX7_write : Mth := (yX7_write, cX7_write, 2, (some .int), RX7)
def MX7_wipe : Mth := (yX7_wipe, cX7_wipe, 2, (some .int), RX7)
def MX7_fault : Mth := (yX7_fault, cX7_fault, 1, (some .int), RX7)
def MX7_map : Mth := (yX7_map, cX7_map, 1, (some .int), RX7)
def MX7_blankNow : Mth := (yX7_blankNow, cX7_blankNow, 1, (some .int), RX7)
def MX7_sideOf : Mth := (yX7_sideOf, cX7_sideOf, 2, (some .int), RX7)
def MX7_bothSides : Mth := (yX7_bothSides, cX7_bothSides, 2, (some .int), RX7)
def MX7_bestChange : Mth := (yX7_bestChange, cX7_bestChange, 6, (some .int), RX7)
def MX7_greatestMiss : Mth := (yX7_greatestMiss, cX7_greatestMiss, 4, (some .int), RX7)
def MX7_bestShift : Mth := (yX7_bestShift, cX7_bestShift, 5, (some .int), RX7)
def MX7_band : Mth := (yX7_band, cX7_band, 2, (some .int), RX7)
def MX7_about : Mth := (yX7_about, cX7_about, 2, (some .int), RX7)
def MX7_shade : Mth := (yX7_shade, cX7_shade, 3, (some .int), RX7)
def MX7_cell : Mth := (yX7_cell, cX7_cell, 3, (some .int), RX7)
def MX7_guess : Mth := (yX7_guess, cX7_guess, 3, (some .int), RX7)
def MX7_isDot : Mth := (yX7_isDot, cX7_isDot, 2, (some .boolean), RX7)
def MX7_dot : Mth := (yX7_dot, cX7_dot, 4, (some .int), RX7)
def MX7_change : Mth := (yX7_change, cX7_change, 3, (some .int), RX7)
def MX7_move : Mth := (yX7_move, cX7_move, 4, (some .int), RX7)
def MX7_lay : Mth := (yX7_lay, cX7_lay, 2, (some .int), RX7)
def MX7_paint : Mth := (yX7_paint, cX7_paint, 5, (some .int), RX7)
def MX7_isShift : Mth := (yX7_isShift, cX7_isShift, 1, (some .boolean), RX7)
def MX7_shift : Mth := (yX7_shift, cX7_shift, 3, (some .int), RX7)
def MX7_isPack : Mth := (yX7_isPack, cX7_isPack, 1, (some .boolean), RX7)
def MX7_lose : Mth := (yX7_lose, cX7_lose, 2, (some .int), RX7)
def MX7_undo : Mth := (yX7_undo, cX7_undo, 1, (some .int), RX7)
def MX7_miss : Mth := (yX7_miss, cX7_miss, 2, (some .int), RX7)
def MX7_triedPack : Mth := (yX7_triedPack, cX7_triedPack, 2, (some .boolean), RX7)
def MX7_triedShift : Mth := (yX7_triedShift, cX7_triedShift, 2, (some .boolean), RX7)
def MX7_comesOutRight : Mth := (yX7_comesOutRight, cX7_comesOutRight, 2, (some .boolean), RX7)
def MX7_comesOutBlank : Mth := (yX7_comesOutBlank, cX7_comesOutBlank, 2, (some .boolean), RX7)
def MX7_triedChange : Mth := (yX7_triedChange, cX7_triedChange, 3, (some .boolean), RX7)
def MX7_goesWell : Mth := (yX7_goesWell, cX7_goesWell, 4, (some .boolean), RX7)
def MX7_judge : Mth := (yX7_judge, cX7_judge, 6, (some .int), RX7)
def MX7_see : Mth := (yX7_see, cX7_see, 4, (some .int), RX7)
def MX7_unsee : Mth := (yX7_unsee, cX7_unsee, 2, (some .int), RX7)
def MX7_which : Mth := (yX7_which, cX7_which, 3, (some .int), RX7)
def MX7_tellMisses : Mth := (yX7_tellMisses, cX7_tellMisses, 2, none, RX7)
def MJ6_bitCount_0f7a4 : Mth := (yJ6_bitCount_0f7a4, cJ6_bitCount_0f7a4, 1, (some .int), RJ6)
def MX7_commonDivisor : Mth := (yX7_commonDivisor, cX7_commonDivisor, 6, (some .int), RX7)
def MX7_fraction : Mth := (yX7_fraction, cX7_fraction, 4, (some .int), RX7)
def MX7_share : Mth := (yX7_share, cX7_share, 7, (some .int), RX7)
def MX7_isTenths : Mth := (yX7_isTenths, cX7_isTenths, 1, (some .boolean), RX7)
def MX7_likelihood : Mth := (yX7_likelihood, cX7_likelihood, 4, (some .int), RX7)
def MX7_chance : Mth := (yX7_chance, cX7_chance, 6, (some .int), RX7)
def MX7_mean : Mth := (yX7_mean, cX7_mean, 5, (some .int), RX7)
def MX7_seed : Mth := (yX7_seed, cX7_seed, 5, (some .long), RX7)
def MX7_drawn : Mth := (yX7_drawn, cX7_drawn, 4, (some .int), RX7)
def MX7_isSlot : Mth := (yX7_isSlot, cX7_isSlot, 1, (some .boolean), RX7)
def MX7_keep : Mth := (yX7_keep, cX7_keep, 2, (some .int), RX7)
def MX7_again : Mth := (yX7_again, cX7_again, 2, (some .int), RX7)
def MX8_init : Mth := (yX8_init, cX8_init, 1, none, RX8)
def MX8_copy : Mth := (yX8_copy, cX8_copy, 3, none, RX8)
def MX8_in : Mth := (yX8_in, cX8_in, 6, (some .boolean), RX8)
def MX8_has : Mth := (yX8_has, cX8_has, 2, (some .boolean), RX8)
def MX8_ones : Mth := (yX8_ones, cX8_ones, 3, (some .int), RX8)
def MX8_power : Mth := (yX8_power, cX8_power, 4, (some .int), RX8)
def MX8_factorial : Mth := (yX8_factorial, cX8_factorial, 3, (some .int), RX8)
def MX8_fraction : Mth := (yX8_fraction, cX8_fraction, 6, (some .int), RX8)
def MX8_isShade : Mth := (yX8_isShade, cX8_isShade, 2, (some .boolean), RX8)
def MX8_isFour : Mth := (yX8_isFour, cX8_isFour, 1, (some .boolean), RX8)
def MX8_write : Mth := (yX8_write, cX8_write, 2, (some .int), RX8)
def MX8_wipe : Mth := (yX8_wipe, cX8_wipe, 2, (some .int), RX8)
def MX8_isEmptyAsRead : Mth := (yX8_isEmptyAsRead, cX8_isEmptyAsRead, 4, (some .boolean), RX8)
def MX8_hasRoomAsRead : Mth := (yX8_hasRoomAsRead, cX8_hasRoomAsRead, 4, (some .boolean), RX8)
def MX8_take : Mth := (yX8_take, cX8_take, 3, (some .boolean), RX8)
def MX8_readText : Mth := (yX8_readText, cX8_readText, 2, (some .int), RX8)
def MX8_fault : Mth := (yX8_fault, cX8_fault, 1, (some .int), RX8)
def MX8_map : Mth := (yX8_map, cX8_map, 2, (some .int), RX8)
def MX8_lineOf : Mth := (yX8_lineOf, cX8_lineOf, 2, (some .int), RX8)
def MX8_guessOf : Mth := (yX8_guessOf, cX8_guessOf, 10, (some .int), RX8)
def MX8_sideOf : Mth := (yX8_sideOf, cX8_sideOf, 7, (some .int), RX8)
def MX8_sides : Mth := (yX8_sides, cX8_sides, 2, (some .int), RX8)
def MX8_comes : Mth := (yX8_comes, cX8_comes, 8, (some .int), RX8)
def MX8_fill : Mth := (yX8_fill, cX8_fill, 7, none, RX8)
def MX8_layOut : Mth := (yX8_layOut, cX8_layOut, 7, none, RX8)
def MX8_missBy : Mth := (yX8_missBy, cX8_missBy, 6, (some .int), RX8)
def MX8_blanks : Mth := (yX8_blanks, cX8_blanks, 3, (some .int), RX8)
def MX8_changeOn : Mth := (yX8_changeOn, cX8_changeOn, 4, none, RX8)
def MX8_bestChange : Mth := (yX8_bestChange, cX8_bestChange, 6, (some .int), RX8)
def MX8_bestShift : Mth := (yX8_bestShift, cX8_bestShift, 7, (some .int), RX8)
def MX8_layOn : Mth := (yX8_layOn, cX8_layOn, 7, (some .boolean), RX8)
def MX8_band : Mth := (yX8_band, cX8_band, 3, (some .int), RX8)
def MX8_about : Mth := (yX8_about, cX8_about, 2, (some .int), RX8)
def MX8_howOften : Mth := (yX8_howOften, cX8_howOften, 4, (some .int), RX8)
def MX8_shade : Mth := (yX8_shade, cX8_shade, 3, (some .int), RX8)
def MX8_shadeAt : Mth := (yX8_shadeAt, cX8_shadeAt, 4, (some .int), RX8)
def MX8_isCell : Mth := (yX8_isCell, cX8_isCell, 3, (some .boolean), RX8)
def MX8_cell : Mth := (yX8_cell, cX8_cell, 3, (some .int), RX8)
def MX8_guess : Mth := (yX8_guess, cX8_guess, 3, (some .int), RX8)
def MX8_dot : Mth := (yX8_dot, cX8_dot, 4, (some .int), RX8)
def MX8_note : Mth := (yX8_note, cX8_note, 2, none, RX8)
def MX8_change : Mth := (yX8_change, cX8_change, 3, (some .int), RX8)
def MX8_move : Mth := (yX8_move, cX8_move, 4, (some .int), RX8)
def MX8_lay : Mth := (yX8_lay, cX8_lay, 2, (some .int), RX8)
def MX8_paint : Mth := (yX8_paint, cX8_paint, 5, (some .int), RX8)
def MX8_shift : Mth := (yX8_shift, cX8_shift, 3, (some .int), RX8)
def MX8_lose : Mth := (yX8_lose, cX8_lose, 2, (some .int), RX8)
def MX8_undo : Mth := (yX8_undo, cX8_undo, 2, (some .int), RX8)
def MX8_miss : Mth := (yX8_miss, cX8_miss, 2, (some .int), RX8)
def MX8_judged : Mth := (yX8_judged, cX8_judged, 4, (some .boolean), RX8)
def MX8_thousands : Mth := (yX8_thousands, cX8_thousands, 4, (some .long), RX8)
def MX8_judge : Mth := (yX8_judge, cX8_judge, 6, (some .int), RX8)
def MX8_see : Mth := (yX8_see, cX8_see, 4, (some .int), RX8)
def MX8_unsee : Mth := (yX8_unsee, cX8_unsee, 2, (some .int), RX8)
def MX8_which : Mth := (yX8_which, cX8_which, 5, (some .int), RX8)
def MX8_share : Mth := (yX8_share, cX8_share, 6, (some .int), RX8)
def MX8_chance : Mth := (yX8_chance, cX8_chance, 6, (some .int), RX8)
def MX8_mean : Mth := (yX8_mean, cX8_mean, 5, (some .int), RX8)
def MX8_seed : Mth := (yX8_seed, cX8_seed, 5, (some .long), RX8)
def MX8_drawn : Mth := (yX8_drawn, cX8_drawn, 5, (some .int), RX8)
def MX8_keep : Mth := (yX8_keep, cX8_keep, 3, (some .int), RX8)
def MX8_again : Mth := (yX8_again, cX8_again, 3, (some .int), RX8)
def MJ9_abs_0f7a4 : Mth := (yJ9_abs_0f7a4, cJ9_abs_0f7a4, 1, (some .int), RJ9)
def MJ9_max_7cf53 : Mth := (yJ9_max_7cf53, cJ9_max_7cf53, 2, (some .int), RJ9)
end
section
/-! THE WORLD. After the two constructors no cell is made: the heap is a tree of final references. A cell is named by its path (field or element numbers, the innermost first). -/
abbrev AV : Type := Int32 ⊕ (Int64 ⊕ (Nat × Nat × List Nat))
abbrev vI (x : Int32) : AV := Sum.inl x
abbrev vL (x : Int64) : AV := Sum.inr (Sum.inl x)
/-- a cell: its kind (0 .. 8 objects by vwCl, 9 int[], 10 boolean[], 11 State[], 13, 14 static arrays), its length, its path -/
abbrev vR (k n : Nat) (p : List Nat) : AV := Sum.inr (Sum.inr (k, n, p))
abbrev Wd : Type := (List Nat → Nat → Int32) × (List Nat → Int64)
/-- launch, class numbers, array classes, addresses, static arrays -/
abbrev Cx : Type := Launch × va_G × (Nat → ClassId) × (List Nat → Nat) × (Nat → Nat)
def adr (X : Cx) (k : Nat) (p : List Nat) : Nat := if k = 13 then X.2.2.2.2 0 else if k = 14 then X.2.2.2.2 1 else X.2.2.2.1 p
def con (X : Cx) : AV → Value
  | .inl x => .int x
  | .inr (.inl x) => .long x
  | .inr (.inr q) => .ref (adr X q.1 q.2.2)
def cat : AV → Nat
  | .inl _ => 1
  | .inr (.inl _) => 2
  | .inr (.inr _) => 1
theorem con_cat (X : Cx) (v : AV) : (con X v).category = cat v := by
  rcases v with x | x | ⟨k, n, p⟩ <;> rfl
theorem con_sum (X : Cx) : ∀ l : List AV, ((l.map (con X)).map fun v => v.category).sum = (l.map cat).sum
  | [] => rfl
  | v :: l => by
    simp only [List.map_cons, List.sum_cons, con_cat]
    rw [con_sum X l]
abbrev cells5 (p : List Nat) : List (List Nat × Nat × Nat) := [(p, 5, 0), (5 :: p, 9, 20), (6 :: p, 9, 20), (7 :: p, 9, 16)]
abbrev cells1 (p : List Nat) : List (List Nat × Nat × Nat) := [(p, 1, 0), (0 :: p, 9, 12), (1 :: p, 9, 12), (2 :: p, 9, 12), (3 :: p, 9, 2)]
def PT0 : List (List Nat × Nat × Nat) := [([], 7, 0), ([0], 6, 0), ([0, 0], 9, 70)] ++ cells5 [1] ++ cells5 [2] ++ [([3], 0, 0), ([0, 3], 11, 14)]
  ++ cells5 [0, 0, 3] ++ cells5 [1, 0, 3] ++ cells5 [2, 0, 3] ++ cells5 [3, 0, 3] ++ cells5 [4, 0, 3] ++ cells5 [5, 0, 3] ++ cells5 [6, 0, 3] ++ cells5 [7, 0, 3] ++ cells5 [8, 0, 3] ++ cells5 [9, 0, 3] ++ cells5 [10, 0, 3] ++ cells5 [11, 0, 3] ++ cells5 [12, 0, 3] ++ cells5 [13, 0, 3]
  ++ [([4], 4, 0), ([0, 4], 11, 2)] ++ cells5 [0, 0, 4] ++ cells5 [1, 0, 4] ++ [([5], 3, 0), ([0, 5], 9, 6), ([1, 5], 9, 6)] ++ cells1 [6] ++ [([7], 2, 0)] ++ cells1 [0, 7] ++ [([1, 7], 9, 16), ([8], 9, 16)]
def PT1 : List (List Nat × Nat × Nat) := [([], 8, 0), ([0], 9, 70), ([5], 9, 38), ([6], 9, 38), ([7], 9, 532), ([10], 9, 76), ([11], 10, 2), ([12], 9, 6), ([13], 9, 6), ([16], 9, 16), ([17], 10, 4), ([18], 9, 16), ([22], 9, 20)]
/-- the cells of a root: 0 the class, 1 the reference -/
def PT (r : Nat) : List (List Nat × Nat × Nat) := match r with
  | 0 => PT0
  | 1 => PT1
  | _ => []
/-- of a class' field: 100 an int, 101 a long, else the kind and the length of the cell that it holds -/
def fk (c k : Nat) : Nat × Nat := match c, k with
  | 0, 0 => (11, 14)
  | 1, 0 => (9, 12)
  | 1, 1 => (9, 12)
  | 1, 2 => (9, 12)
  | 1, 3 => (9, 2)
  | 2, 0 => (1, 0)
  | 2, 1 => (9, 16)
  | 3, 0 => (9, 6)
  | 3, 1 => (9, 6)
  | 4, 0 => (11, 2)
  | 5, 5 => (9, 20)
  | 5, 6 => (9, 20)
  | 5, 7 => (9, 16)
  | 6, 0 => (9, 70)
  | 7, 0 => (6, 0)
  | 7, 1 => (5, 0)
  | 7, 2 => (5, 0)
  | 7, 3 => (0, 0)
  | 7, 4 => (4, 0)
  | 7, 5 => (3, 0)
  | 7, 6 => (1, 0)
  | 7, 7 => (2, 0)
  | 7, 8 => (9, 16)
  | 7, 9 => (101, 0)
  | 8, 0 => (9, 70)
  | 8, 5 => (9, 38)
  | 8, 6 => (9, 38)
  | 8, 7 => (9, 532)
  | 8, 10 => (9, 76)
  | 8, 11 => (10, 2)
  | 8, 12 => (9, 6)
  | 8, 13 => (9, 6)
  | 8, 15 => (101, 0)
  | 8, 16 => (9, 16)
  | 8, 17 => (10, 4)
  | 8, 18 => (9, 16)
  | 8, 22 => (9, 20)
  | _, _ => (100, 0)
/-- how many fields -/
def nf (c : Nat) : Nat := match c with
  | 0 => 3
  | 1 => 4
  | 2 => 3
  | 3 => 3
  | 4 => 2
  | 5 => 8
  | 6 => 2
  | 7 => 10
  | 8 => 25
  | _ => 0
def fv (X : Cx) (w : Wd) (p : List Nat) (c k : Nat) : Value := if (fk c k).1 = 100 then .int (w.1 p k) else if (fk c k).1 = 101 then .long (w.2 p) else .ref (X.2.2.2.1 (k :: p))
def cellE (X : Cx) (w : Wd) (e : List Nat × Nat × Nat) : Nat × va_E := (X.2.2.2.1 e.1, if e.2.1 < 9 then .inr (e.2.1, (List.range (nf e.2.1)).map (fv X w e.1 e.2.1)) else if e.2.1 = 11 then .inl (X.2.2.1 2, e.2.2, .inr (.inr (.inr (.inr (fun i => some (X.2.2.2.1 (i :: e.1))))))) else .inl (X.2.2.1 (e.2.1 - 9), e.2.2, .inl (w.1 e.1)))
def wld (X : Cx) (r : Nat) (w : Wd) : va_W := (PT r).map (cellE X w)
def tysX (X : Cx) : List (ClassId × FieldType) := [(X.2.2.1 0, .int), (X.2.2.1 1, .boolean), (X.2.2.1 2, .object "TwoHalves$State")]
def Ar (X : Cx) (r : Nat) : Nat → Prop := fun q => ∃ e ∈ PT r, X.2.2.2.1 e.1 = q
/-- a cell's contents set anew -/
def uA (w : Wd) (p : List Nat) (f : Nat → Int32) : Wd := (fun q => if q = p then f else w.1 q, w.2)
def uI (w : Wd) (p : List Nat) (k : Nat) (v : Int32) : Wd := uA w p (upd (w.1 p) k v)
def uL (w : Wd) (p : List Nat) (v : Int64) : Wd := (w.1, fun q => if q = p then v else w.2 q)
theorem uA_same (w : Wd) (p : List Nat) (f : Nat → Int32) : (uA w p f).1 p = f := by simp [uA]
theorem uA_ne {w : Wd} {p q : List Nat} {f : Nat → Int32} (h : q ≠ p) : (uA w p f).1 q = w.1 q := by simp [uA, h]
theorem PT_nd : ∀ r, va_nd ((PT r).map (fun e => e.1.foldl (fun a b => 100 * a + b + 1) 0)) = true := by
  intro r
  match r with
  | 0 => decide +kernel
  | 1 => decide +kernel
  | _ + 2 => rfl
theorem PT_inj {r i j : Nat} {a b : List Nat × Nat × Nat} (hi : (PT r)[i]? = some a) (hj : (PT r)[j]? = some b) (h : a.1 = b.1) : i = j := by
  refine va_nd_inj _ (PT_nd r) i j (a.1.foldl (fun a b => 100 * a + b + 1) 0) ?_ ?_
  · rw [List.getElem?_map, hi]; rfl
  · rw [List.getElem?_map, hj, h]; rfl
theorem wld_at {X : Cx} {r : Nat} {w : Wd} {e : List Nat × Nat × Nat} (h : e ∈ PT r) : ∃ i : Nat, (PT r)[i]? = some e ∧ (wld X r w)[i]? = some (cellE X w e) := by
  obtain ⟨i, hi⟩ := List.mem_iff_getElem?.mp h
  exact ⟨i, hi, by rw [wld, List.getElem?_map, hi]; rfl⟩
theorem cellE_cg {X : Cx} {w w' : Wd} {e : List Nat × Nat × Nat} (h1 : w'.1 e.1 = w.1 e.1) (h2 : w'.2 e.1 = w.2 e.1) : cellE X w' e = cellE X w e := by
  have h3 : fv X w' e.1 e.2.1 = fv X w e.1 e.2.1 := by
    funext k
    unfold fv
    rw [h1, h2]
  unfold cellE
  rw [h1, h3]
theorem wld_set {X : Cx} {r i : Nat} {w w' : Wd} {e : List Nat × Nat × Nat} (hi : (PT r)[i]? = some e) (h : ∀ q, q ≠ e.1 → w'.1 q = w.1 q ∧ w'.2 q = w.2 q) : (wld X r w).set i (cellE X w' e) = wld X r w' := by
  apply List.ext_getElem?
  intro j
  by_cases hj : i = j
  · subst hj
    rw [List.getElem?_set_self' ]
    simp only [wld, List.getElem?_map, hi, Option.map_some]
    rfl
  · rw [List.getElem?_set_ne hj]
    simp only [wld, List.getElem?_map]
    cases hq : (PT r)[j]? with
    | none => rfl
    | some a =>
      simp only [Option.map_some]
      have hne : a.1 ≠ e.1 := fun h2 => hj (PT_inj hi hq h2.symm)
      rw [cellE_cg (h a.1 hne).1 (h a.1 hne).2]
/-! words -/
def nestW : Cond → Bool
  | .fieldLinkNest .. => true
  | .methodLinkNest .. => true
  | _ => false
def tbG : List Cond := lw_tbl.filter goodWord
def tbN : List Cond := lw_tbl.filter nestW
theorem tbG_good : GoodIn tbG tbG := fun _ h => ⟨h, good_of_word (List.mem_filter.mp h).2⟩
theorem tg {w : Cond} (i : Nat) (h : tables_1[i]? = some w) (g : goodWord w = true) : w ∈ tbG := List.mem_filter.mpr ⟨List.mem_append_right _ (List.mem_of_getElem? h), g⟩
theorem tn {w : Cond} (i : Nat) (h : tables_1[i]? = some w) (g : nestW w = true) : w ∈ tbN := List.mem_filter.mpr ⟨List.mem_append_right _ (List.mem_of_getElem? h), g⟩
theorem tsl {q : MethodName × Nat} (i : Nat) (h : lw_privs[i]? = some q) : Cond.selects q.1.cls q.1 q.1 ∈ tbG :=
  List.mem_filter.mpr ⟨List.mem_append_left _ (List.mem_map.mpr ⟨q, List.mem_of_getElem? h, rfl⟩), rfl⟩
abbrev mW (M : Mth) : List Cond := Cond.code M.1 M.2.1 M.2.2.1 M.2.2.2.1 :: tbG
def Ns (U : State) : Prop := ∀ w ∈ tbN, va_Nw w U
theorem Ns.warm {s U : State} (hW : s.WarmedH U.vm) (h : Ns s) : Ns U := fun w hw => by
  have h1 := h w hw
  have h2 := (List.mem_filter.mp hw).2
  cases w <;> first | exact va_Nw.warmF hW h1 | exact va_Nw.warmM hW h1 | (simp [nestW] at h2)
theorem Ns.same {u U : State} (hv : u.vm = U.vm) (h : Ns u) : Ns U := fun w hw => by
  have h1 := h w hw
  have h2 := (List.mem_filter.mp hw).2
  cases w <;> first | exact va_Nw.same rfl hv h1 | (simp [nestW] at h2)
/-! the two static arrays -/
def dE : Nat → Value := fun k => match k with
  | 0 => .long 1
  | 1 => .long 1000
  | 2 => .long 1000000
  | 3 => .long 1000000000
  | _ => .long 1000000000000
def oB : Nat → Value := fun k => match k with
  | 0 => .int 0
  | 1 => .int 6
  | 2 => .int 2
  | 3 => .int 2
  | _ => .int 6
def Sx (X : Cx) (r : Nat) (U : State) (H : Heap) : Prop := va_Z "TwoHalves" "DOINGS_END" "[J" (.ref (X.2.2.2.2 0)) (Ar X r) U H ∧ va_T .long (X.2.2.2.2 0) 5 dE (Ar X r) U H ∧ va_Z "TwoHalves" "ORDERS_BY_LOST" "[I" (.ref (X.2.2.2.2 1)) (Ar X r) U H ∧ va_T .int (X.2.2.2.2 1) 5 oB (Ar X r) U H
theorem Sx.go {X : Cx} {r : Nat} {u U : State} {H H1 : Heap} (h : Sx X r u H) (hvm : u.vm.Alike U.vm) (hq : ∀ a : Nat, a < H.size → ¬ Ar X r a → H1[a]? = H[a]?) : Sx X r U H1 :=
  ⟨(h.1.moved hvm).kept hq, (h.2.1.moved hvm).kept hq, (h.2.2.1.moved hvm).kept hq, (h.2.2.2.moved hvm).kept hq⟩
def okv (r : Nat) : AV → Prop
  | .inl _ => True
  | .inr (.inl _) => True
  | .inr (.inr q) => (q.1 = 13 ∧ q.2.1 = 5) ∨ (q.1 = 14 ∧ q.2.1 = 5) ∨ (q.1 < 13 ∧ (q.2.2, q.1, q.2.1) ∈ PT r)
def okl (r : Nat) (l : List AV) : Prop := ∀ v ∈ l, okv r v
theorem okl.hd {r : Nat} {v : AV} {l : List AV} (h : okl r (v :: l)) : okv r v := h v List.mem_cons_self
theorem okl.tl {r : Nat} {v : AV} {l : List AV} (h : okl r (v :: l)) : okl r l := fun x hx => h x (List.mem_cons_of_mem _ hx)
theorem okl.cons {r : Nat} {v : AV} {l : List AV} (hv : okv r v) (h : okl r l) : okl r (v :: l) := fun x hx => by
  rcases List.mem_cons.mp hx with rfl | hx
  · exact hv
  · exact h x hx
theorem okl.i {r : Nat} {x : Int32} {l : List AV} (h : okl r l) : okl r (vI x :: l) := okl.cons trivial h
theorem okl.l {r : Nat} {x : Int64} {l : List AV} (h : okl r l) : okl r (vL x :: l) := okl.cons trivial h
theorem okl.nil {r : Nat} : okl r [] := fun x hx => by cases hx
/-! locals -/
abbrev Lo : Type := List (Nat × AV)
def okL (r : Nat) (l : Lo) : Prop := ∀ q ∈ l, okv r q.2
def cnL (X : Cx) (l : Lo) : List (Nat × Value) := l.map (fun q => (q.1, con X q.2))
def lgt (l : Lo) (k : Nat) : Option AV := (l.find? (fun q => q.1 == k)).map (fun q => q.2)
/-- a local of one word set anew -/
def st1 (l : Lo) (i : Nat) (v : AV) : Lo := (i, v) :: l.filter (fun q => !(q.1 == i) && !(q.1 + 1 == i && cat q.2 == 2))
def st2 (l : Lo) (i : Nat) (v : AV) : Lo := (i, v) :: l.filter (fun q => !(q.1 == i) && (!(q.1 == i + 1) && !(q.1 + 1 == i && cat q.2 == 2)))
theorem lgt_mem {l : Lo} {k : Nat} {v : AV} (h : lgt l k = some v) : (k, v) ∈ l := by
  unfold lgt at h
  cases hf : l.find? (fun q => q.1 == k) with
  | none => rw [hf] at h; cases h
  | some q =>
    rw [hf] at h
    have h1 := List.mem_of_find?_eq_some hf
    have h2 := List.find?_some hf
    simp at h2 h
    subst h2; subst h
    exact h1
theorem lgt_at {X : Cx} {l : Lo} {k n : Nat} {v : AV} {ls : Array Slot} (h : lgt l k = some v) (hl : lv_has ls n (cnL X l)) : ls[k]? = some (.val (con X v)) :=
  hl.2.2 (k, con X v) (List.mem_map.mpr ⟨(k, v), lgt_mem h, rfl⟩)
theorem lgt_ok {r : Nat} {l : Lo} {k : Nat} {v : AV} (h : lgt l k = some v) (hl : okL r l) : okv r v := hl _ (lgt_mem h)
theorem cnL_filter (X : Cx) (f : Nat → Nat → Bool) : ∀ l : Lo, (cnL X l).filter (fun q => f q.1 q.2.category) = cnL X (l.filter (fun q => f q.1 (cat q.2)))
  | [] => rfl
  | q :: l => by
    have ih := cnL_filter X f l
    simp only [cnL, List.map_cons, List.filter_cons, con_cat] at ih ⊢
    split
    · rw [List.map_cons, ih]
    · exact ih
theorem cnL_st1 (X : Cx) (l : Lo) (i : Nat) (v : AV) : (i, con X v) :: (cnL X l).filter (fun q => !(q.1 == i) && !(q.1 + 1 == i && q.2.category == 2)) = cnL X (st1 l i v) := by
  rw [cnL_filter X (fun a b => !(a == i) && !(a + 1 == i && b == 2)) l]
  rfl
theorem cnL_st2 (X : Cx) (l : Lo) (i : Nat) (v : AV) : (i, con X v) :: (cnL X l).filter (fun q => !(q.1 == i) && (!(q.1 == i + 1) && !(q.1 + 1 == i && q.2.category == 2))) = cnL X (st2 l i v) := by
  rw [cnL_filter X (fun a b => !(a == i) && (!(a == i + 1) && !(a + 1 == i && b == 2))) l]
  rfl
theorem okL_st1 {r : Nat} {l : Lo} {i : Nat} {v : AV} (hv : okv r v) (h : okL r l) : okL r (st1 l i v) := fun q hq => by
  rcases List.mem_cons.mp hq with rfl | hq
  · exact hv
  · exact h q (List.mem_filter.mp hq).1
theorem okL_st2 {r : Nat} {l : Lo} {i : Nat} {v : AV} (hv : okv r v) (h : okL r l) : okL r (st2 l i v) := fun q hq => by
  rcases List.mem_cons.mp hq with rfl | hq
  · exact hv
  · exact h q (List.mem_filter.mp hq).1
/-! the judgements -/
def rmD (d : Nat) : Room := { frames := d, cells := 0, slots := 0, locals := 40 * d }
def Bd (X : Cx) (r : Nat) (M : Mth) (p : Program) (s : State) (m : MethodId) (args : Array Value) (meth : Method) (c : Code) : Prop :=
  p.tables.exec = Jvm.exec ∧ c.code = M.2.1 ∧ c.maxLocals = M.2.2.1 ∧ meth.sig.returnType = M.2.2.2.1 ∧ meth.locks = false ∧ s.vm.findClass M.2.2.2.2 = some m.cls ∧ (∀ w ∈ tbG, w.before args s = true) ∧ va_K X.2.1 vwCl (tysX X) s ∧ Ns s ∧ Sx X r s s.heap
def Wl (X : Cx) (r : Nat) (w : Wd) (U : State) : Prop := va_P X.2.1 vwCl (wld X r w) U.heap ∧ va_D (Ar X r) (wld X r w) ∧ va_K X.2.1 vwCl (tysX X) U ∧ Ns U ∧ Sx X r U U.heap
def Qres (X : Cx) (r : Nat) (Q : Option AV → Wd → Prop) : Array Value → State → Outcome → State → Prop := fun _ st oc t => (∃ (rv : Option AV) (w' : Wd), oc = .returned (rv.map (con X)) ∧ Q rv w' ∧ okl r rv.toList ∧ va_P X.2.1 vwCl (wld X r w') t.heap ∧ va_D (Ar X r) (wld X r w')) ∧ va_F (Ar X r) st t
/-- from pc, with these locals, this stack and this world, the method ends with Q -/
def Wq (X : Cx) (r d : Nat) (M : Mth) (pc : Nat) (loc : Lo) (stk : List AV) (w : Wd) (Q : Option AV → Wd → Prop) : Prop :=
  okL r loc → okl r stk → ∀ (p : Program) (e : Env) (s : State) (m : MethodId) (args : Array Value) (below : List Frame) (meth : Method) (c : Code) (H : Heap) (locs : List Loc) (ls : Array Slot),
    Bd X r M p s m args meth c → va_P X.2.1 vwCl (wld X r w) H → va_D (Ar X r) (wld X r w) → va_S (Ar X r) s.heap H locs → lv_has ls M.2.2.1 (cnL X loc) →
    W p X.1 e (rmD d) s m args below meth c H locs 0 0 (MQ below (Qres X r Q) args s 0 0 (Ar X r)) (F0 m pc ls (stk.map (con X)))
/-- a contract: with these arguments in this world the method ends with Q -/
def Ct (X : Cx) (r d : Nat) (M : Mth) (as : List AV) (w : Wd) (Q : Option AV → Wd → Prop) : Prop :=
  okl r as → Met X.1 M.1 (mW M) (rmD d) (va_Pc (as.map (con X)) (Wl X r w)) (Qres X r Q) 0 0 (Ar X r)
def argl : Nat → List AV → Lo
  | _, [] => []
  | i, v :: vs => (i, v) :: argl (if cat v = 2 then i + 2 else i + 1) vs
theorem argl_ok {r : Nat} : ∀ (vs : List AV) (i : Nat), okl r vs → okL r (argl i vs)
  | [], _, _ => fun q hq => by cases hq
  | v :: vs, i, h => fun q hq => by
    rcases List.mem_cons.mp hq with rfl | hq
    · exact h.hd
    · exact argl_ok vs _ h.tl q hq
theorem argl_cn (X : Cx) : ∀ (vs : List AV) (i : Nat), lv_args i (vs.map (con X)) = cnL X (argl i vs)
  | [], _ => rfl
  | v :: vs, i => by
    show (i, con X v) :: lv_args _ (vs.map (con X)) = (i, con X v) :: cnL X (argl _ vs)
    rw [con_cat, argl_cn X vs]
theorem lg_sl_len (X : Cx) : ∀ (vs : List AV), (lg_sl (vs.map (con X))).length = (vs.map cat).sum
  | [] => rfl
  | v :: vs => by
    have ih := lg_sl_len X vs
    have h1 : lg_sl ((v :: vs).map (con X)) = (if (con X v).category = 2 then [Slot.val (con X v), Slot.second] else [Slot.val (con X v)]) ++ lg_sl (vs.map (con X)) := by
      simp [lg_sl]
    rw [h1, List.length_append, ih, con_cat, List.map_cons, List.sum_cons]
    rcases v with x | x | q <;> rfl
theorem Ct.of {X : Cx} {r d : Nat} {M : Mth} {as : List AV} {w : Wd} {Q : Option AV → Wd → Prop} (hy : plainName M.1.cls = true) (ho : M.1.cls = M.2.2.2.2) (hn : (as.map cat).sum ≤ M.2.2.1) (k : Wq X r d M 0 (argl 0 as) [] w Q) : Ct X r d M as w Q := by
  intro hok
  refine Met.ofW (cc := M.2.1) (maxL := M.2.2.1) (ret := M.2.2.2.1) hy rfl ?_
  intro p e s m args below meth c s₁ B hml hv
  obtain ⟨rfl, hP, hD, hK, hN, hX⟩ := hv
  have hts := atoms_spec (ws := mW M) B.pre
  have hown : s.vm.findClass M.1.cls = some m.cls := findClass_of_methodNamed B.named
  have hl := lv_entry (as.map (con X)) (n := M.2.2.1) (by rw [lg_sl_len]; exact hn)
  rw [lg_entry_eq]
  rw [argl_cn] at hl
  exact k (argl_ok as 0 hok) okl.nil p e s m _ below meth c s.heap [] _ ⟨B.exec, B.bytes, hml, B.returns, B.notSynchronized, ho ▸ hown, fun w hw => hts w (List.mem_cons_of_mem _ hw), hK, hN, hX⟩ hP hD va_S.rf hl
end
section
section RU
variable {X : Cx} {r d : Nat} {M : Mth} {pc q : Nat} {loc : Lo} {stk : List AV} {w : Wd} {Q : Option AV → Wd → Prop}
theorem R_iload_n {k : Fin 4} {i : Nat} {x : Int32} (hd : decode M.2.1 pc = .ok (.iload_n k, 1)) (hi : (k : Nat) = i) (hg : lgt loc i = some (vI x)) (hq : pc + 1 = q) (k : Wq X r d M q loc (vI x :: stk) w Q) : Wq X r d M pc loc (stk) w Q := by
  subst hq
  intro h1 h2 p e s m args below meth c H locs ls B hP hD hS hl
  exact lv_iload_n (x := x) (rest := stk.map (con X)) B.1 B.2.1 hd hi (lgt_at hg hl) (k h1 h2.i p e s m args below meth c H locs ls B hP hD hS hl)
theorem R_iload {i : Nat} {x : Int32} (hd : decode M.2.1 pc = .ok (.iload i, 2)) (hg : lgt loc i = some (vI x)) (hq : pc + 2 = q) (k : Wq X r d M q loc (vI x :: stk) w Q) : Wq X r d M pc loc (stk) w Q := by
  subst hq
  intro h1 h2 p e s m args below meth c H locs ls B hP hD hS hl
  exact lv_iload (x := x) (rest := stk.map (con X)) B.1 B.2.1 hd (lgt_at hg hl) (k h1 h2.i p e s m args below meth c H locs ls B hP hD hS hl)
theorem R_lload_n {k : Fin 4} {i : Nat} {x : Int64} (hd : decode M.2.1 pc = .ok (.lload_n k, 1)) (hi : (k : Nat) = i) (hg : lgt loc i = some (vL x)) (hq : pc + 1 = q) (k : Wq X r d M q loc (vL x :: stk) w Q) : Wq X r d M pc loc (stk) w Q := by
  subst hq
  intro h1 h2 p e s m args below meth c H locs ls B hP hD hS hl
  exact lv_lload_n (x := x) (rest := stk.map (con X)) B.1 B.2.1 hd hi (lgt_at hg hl) (k h1 h2.l p e s m args below meth c H locs ls B hP hD hS hl)
theorem R_lload {i : Nat} {x : Int64} (hd : decode M.2.1 pc = .ok (.lload i, 2)) (hg : lgt loc i = some (vL x)) (hq : pc + 2 = q) (k : Wq X r d M q loc (vL x :: stk) w Q) : Wq X r d M pc loc (stk) w Q := by
  subst hq
  intro h1 h2 p e s m args below meth c H locs ls B hP hD hS hl
  exact lv_lload (x := x) (rest := stk.map (con X)) B.1 B.2.1 hd (lgt_at hg hl) (k h1 h2.l p e s m args below meth c H locs ls B hP hD hS hl)
theorem R_aload_n {k : Fin 4} {i a n : Nat} {pa : List Nat} (hd : decode M.2.1 pc = .ok (.aload_n k, 1)) (hi : (k : Nat) = i) (hg : lgt loc i = some (vR a n pa)) (hq : pc + 1 = q) (k : Wq X r d M q loc (vR a n pa :: stk) w Q) : Wq X r d M pc loc (stk) w Q := by
  subst hq
  intro h1 h2 p e s m args below meth c H locs ls B hP hD hS hl
  exact lv_aload_n (x := adr X a pa) (rest := stk.map (con X)) B.1 B.2.1 hd hi (lgt_at hg hl) (k h1 (okl.cons (lgt_ok hg h1) h2) p e s m args below meth c H locs ls B hP hD hS hl)
theorem R_iconst {n : Int} {v : Int32} (hd : decode M.2.1 pc = .ok (.iconst n, 1)) (hv : Int32.ofInt n = v) (hq : pc + 1 = q) (k : Wq X r d M q loc (vI v :: stk) w Q) : Wq X r d M pc loc (stk) w Q := by
  subst hq
  intro h1 h2 p e s m args below meth c H locs ls B hP hD hS hl
  exact lv_iconst (rest := stk.map (con X)) B.1 B.2.1 hd hv (k h1 h2.i p e s m args below meth c H locs ls B hP hD hS hl)
theorem R_bipush {n : Int} {v : Int32} (hd : decode M.2.1 pc = .ok (.bipush n, 2)) (hv : (Int8.ofInt n).toInt32 = v) (hq : pc + 2 = q) (k : Wq X r d M q loc (vI v :: stk) w Q) : Wq X r d M pc loc (stk) w Q := by
  subst hq
  intro h1 h2 p e s m args below meth c H locs ls B hP hD hS hl
  exact lv_bipush (rest := stk.map (con X)) B.1 B.2.1 hd hv (k h1 h2.i p e s m args below meth c H locs ls B hP hD hS hl)
theorem R_sipush {n : Int} {v : Int32} (hd : decode M.2.1 pc = .ok (.sipush n, 3)) (hv : (Int16.ofInt n).toInt32 = v) (hq : pc + 3 = q) (k : Wq X r d M q loc (vI v :: stk) w Q) : Wq X r d M pc loc (stk) w Q := by
  subst hq
  intro h1 h2 p e s m args below meth c H locs ls B hP hD hS hl
  exact lv_sipush (rest := stk.map (con X)) B.1 B.2.1 hd hv (k h1 h2.i p e s m args below meth c H locs ls B hP hD hS hl)
theorem R_lconst {n : Fin 2} {v : Int64} (hd : decode M.2.1 pc = .ok (.lconst n, 1)) (hv : Int64.ofNat (n : Nat) = v) (hq : pc + 1 = q) (k : Wq X r d M q loc (vL v :: stk) w Q) : Wq X r d M pc loc (stk) w Q := by
  subst hq
  intro h1 h2 p e s m args below meth c H locs ls B hP hD hS hl
  exact lv_lconst (rest := stk.map (con X)) B.1 B.2.1 hd hv (k h1 h2.l p e s m args below meth c H locs ls B hP hD hS hl)
theorem R_ldcw {i : Nat} {v : Int32} (hd : decode M.2.1 pc = .ok (.ldc_w i, 3)) (hc : Cond.constant M.2.2.2.2 i v ∈ tbG) (hq : pc + 3 = q) (k : Wq X r d M q loc (vI v :: stk) w Q) : Wq X r d M pc loc stk w Q := by
  subst hq
  intro h1 h2 p e s m args below meth c H locs ls B hP hD hS hl
  exact lv_ldcw (rest := stk.map (con X)) B.1 B.2.1 B.2.2.2.2.2.1 (B.2.2.2.2.2.2.1 _ hc) hd (k h1 h2.i p e s m args below meth c H locs ls B hP hD hS hl)
theorem R_ldc2 {i : Nat} {v : Int64} (hd : decode M.2.1 pc = .ok (.ldc2_w i, 3)) (hc : Cond.constantLong M.2.2.2.2 i v ∈ tbG) (hq : pc + 3 = q) (k : Wq X r d M q loc (vL v :: stk) w Q) : Wq X r d M pc loc stk w Q := by
  subst hq
  intro h1 h2 p e s m args below meth c H locs ls B hP hD hS hl
  exact lv_ldc2 (rest := stk.map (con X)) B.1 B.2.1 B.2.2.2.2.2.1 (B.2.2.2.2.2.2.1 _ hc) hd (k h1 h2.l p e s m args below meth c H locs ls B hP hD hS hl)
theorem R_iadd {x y : Int32} (hd : decode M.2.1 pc = .ok (.iadd, 1))  (hq : pc + 1 = q) (k : Wq X r d M q loc (vI (x + y) :: stk) w Q) : Wq X r d M pc loc (vI y :: vI x :: stk) w Q := by
  subst hq
  intro h1 h2 p e s m args below meth c H locs ls B hP hD hS hl
  exact lv_iadd (rest := stk.map (con X)) B.1 B.2.1 hd  (k h1 h2.tl.tl.i p e s m args below meth c H locs ls B hP hD hS hl)
theorem R_isub {x y : Int32} (hd : decode M.2.1 pc = .ok (.isub, 1))  (hq : pc + 1 = q) (k : Wq X r d M q loc (vI (x - y) :: stk) w Q) : Wq X r d M pc loc (vI y :: vI x :: stk) w Q := by
  subst hq
  intro h1 h2 p e s m args below meth c H locs ls B hP hD hS hl
  exact lv_isub (rest := stk.map (con X)) B.1 B.2.1 hd  (k h1 h2.tl.tl.i p e s m args below meth c H locs ls B hP hD hS hl)
theorem R_imul {x y : Int32} (hd : decode M.2.1 pc = .ok (.imul, 1))  (hq : pc + 1 = q) (k : Wq X r d M q loc (vI (x * y) :: stk) w Q) : Wq X r d M pc loc (vI y :: vI x :: stk) w Q := by
  subst hq
  intro h1 h2 p e s m args below meth c H locs ls B hP hD hS hl
  exact lv_imul (rest := stk.map (con X)) B.1 B.2.1 hd  (k h1 h2.tl.tl.i p e s m args below meth c H locs ls B hP hD hS hl)
theorem R_iand {x y : Int32} (hd : decode M.2.1 pc = .ok (.iand, 1))  (hq : pc + 1 = q) (k : Wq X r d M q loc (vI (x &&& y) :: stk) w Q) : Wq X r d M pc loc (vI y :: vI x :: stk) w Q := by
  subst hq
  intro h1 h2 p e s m args below meth c H locs ls B hP hD hS hl
  exact lv_iand (rest := stk.map (con X)) B.1 B.2.1 hd  (k h1 h2.tl.tl.i p e s m args below meth c H locs ls B hP hD hS hl)
theorem R_ior {x y : Int32} (hd : decode M.2.1 pc = .ok (.ior, 1))  (hq : pc + 1 = q) (k : Wq X r d M q loc (vI (x ||| y) :: stk) w Q) : Wq X r d M pc loc (vI y :: vI x :: stk) w Q := by
  subst hq
  intro h1 h2 p e s m args below meth c H locs ls B hP hD hS hl
  exact lv_ior (rest := stk.map (con X)) B.1 B.2.1 hd  (k h1 h2.tl.tl.i p e s m args below meth c H locs ls B hP hD hS hl)
theorem R_ixor {x y : Int32} (hd : decode M.2.1 pc = .ok (.ixor, 1))  (hq : pc + 1 = q) (k : Wq X r d M q loc (vI (x ^^^ y) :: stk) w Q) : Wq X r d M pc loc (vI y :: vI x :: stk) w Q := by
  subst hq
  intro h1 h2 p e s m args below meth c H locs ls B hP hD hS hl
  exact lv_ixor (rest := stk.map (con X)) B.1 B.2.1 hd  (k h1 h2.tl.tl.i p e s m args below meth c H locs ls B hP hD hS hl)
theorem R_ishl {x y : Int32} (hd : decode M.2.1 pc = .ok (.ishl, 1))  (hq : pc + 1 = q) (k : Wq X r d M q loc (vI (x <<< (y &&& 31)) :: stk) w Q) : Wq X r d M pc loc (vI y :: vI x :: stk) w Q := by
  subst hq
  intro h1 h2 p e s m args below meth c H locs ls B hP hD hS hl
  exact lv_ishl (rest := stk.map (con X)) B.1 B.2.1 hd  (k h1 h2.tl.tl.i p e s m args below meth c H locs ls B hP hD hS hl)
theorem R_ishr {x y : Int32} (hd : decode M.2.1 pc = .ok (.ishr, 1))  (hq : pc + 1 = q) (k : Wq X r d M q loc (vI (x >>> (y &&& 31)) :: stk) w Q) : Wq X r d M pc loc (vI y :: vI x :: stk) w Q := by
  subst hq
  intro h1 h2 p e s m args below meth c H locs ls B hP hD hS hl
  exact lv_ishr (rest := stk.map (con X)) B.1 B.2.1 hd  (k h1 h2.tl.tl.i p e s m args below meth c H locs ls B hP hD hS hl)
theorem R_idiv {x y : Int32} (hd : decode M.2.1 pc = .ok (.idiv, 1)) (hne : ¬ y = 0) (hq : pc + 1 = q) (k : Wq X r d M q loc (vI (x / y) :: stk) w Q) : Wq X r d M pc loc (vI y :: vI x :: stk) w Q := by
  subst hq
  intro h1 h2 p e s m args below meth c H locs ls B hP hD hS hl
  exact lv_idiv (rest := stk.map (con X)) B.1 B.2.1 hd hne (k h1 h2.tl.tl.i p e s m args below meth c H locs ls B hP hD hS hl)
theorem R_irem {x y : Int32} (hd : decode M.2.1 pc = .ok (.irem, 1)) (hne : ¬ y = 0) (hq : pc + 1 = q) (k : Wq X r d M q loc (vI (x - x / y * y) :: stk) w Q) : Wq X r d M pc loc (vI y :: vI x :: stk) w Q := by
  subst hq
  intro h1 h2 p e s m args below meth c H locs ls B hP hD hS hl
  exact lv_irem (rest := stk.map (con X)) B.1 B.2.1 hd hne (k h1 h2.tl.tl.i p e s m args below meth c H locs ls B hP hD hS hl)
theorem R_iushr {x y : Int32} (hd : decode M.2.1 pc = .ok (.iushr, 1))  (hq : pc + 1 = q) (k : Wq X r d M q loc (vI ((x.toUInt32 >>> (y.toUInt32 &&& Int32.toUInt32 31)).toInt32) :: stk) w Q) : Wq X r d M pc loc (vI y :: vI x :: stk) w Q := by
  subst hq
  intro h1 h2 p e s m args below meth c H locs ls B hP hD hS hl
  exact lv_iushr (rest := stk.map (con X)) B.1 B.2.1 hd rfl (k h1 h2.tl.tl.i p e s m args below meth c H locs ls B hP hD hS hl)
theorem R_ineg {x : Int32} (hd : decode M.2.1 pc = .ok (.ineg, 1))  (hq : pc + 1 = q) (k : Wq X r d M q loc (vI (-x) :: stk) w Q) : Wq X r d M pc loc (vI x :: stk) w Q := by
  subst hq
  intro h1 h2 p e s m args below meth c H locs ls B hP hD hS hl
  exact lv_ineg (rest := stk.map (con X)) B.1 B.2.1 hd  (k h1 h2.tl.i p e s m args below meth c H locs ls B hP hD hS hl)
theorem R_i2l {x : Int32} (hd : decode M.2.1 pc = .ok (.i2l, 1))  (hq : pc + 1 = q) (k : Wq X r d M q loc (vL x.toInt64 :: stk) w Q) : Wq X r d M pc loc (vI x :: stk) w Q := by
  subst hq
  intro h1 h2 p e s m args below meth c H locs ls B hP hD hS hl
  exact lv_i2l (rest := stk.map (con X)) B.1 B.2.1 hd rfl (k h1 h2.tl.l p e s m args below meth c H locs ls B hP hD hS hl)
theorem R_l2i {x : Int64} (hd : decode M.2.1 pc = .ok (.l2i, 1))  (hq : pc + 1 = q) (k : Wq X r d M q loc (vI x.toInt32 :: stk) w Q) : Wq X r d M pc loc (vL x :: stk) w Q := by
  subst hq
  intro h1 h2 p e s m args below meth c H locs ls B hP hD hS hl
  exact lv_l2i (rest := stk.map (con X)) B.1 B.2.1 hd rfl (k h1 h2.tl.i p e s m args below meth c H locs ls B hP hD hS hl)
theorem R_ladd {x y : Int64} (hd : decode M.2.1 pc = .ok (.ladd, 1))  (hq : pc + 1 = q) (k : Wq X r d M q loc (vL (x + y) :: stk) w Q) : Wq X r d M pc loc (vL y :: vL x :: stk) w Q := by
  subst hq
  intro h1 h2 p e s m args below meth c H locs ls B hP hD hS hl
  exact lv_ladd (rest := stk.map (con X)) B.1 B.2.1 hd  (k h1 h2.tl.tl.l p e s m args below meth c H locs ls B hP hD hS hl)
theorem R_lsub {x y : Int64} (hd : decode M.2.1 pc = .ok (.lsub, 1))  (hq : pc + 1 = q) (k : Wq X r d M q loc (vL (x - y) :: stk) w Q) : Wq X r d M pc loc (vL y :: vL x :: stk) w Q := by
  subst hq
  intro h1 h2 p e s m args below meth c H locs ls B hP hD hS hl
  exact lv_lsub (rest := stk.map (con X)) B.1 B.2.1 hd  (k h1 h2.tl.tl.l p e s m args below meth c H locs ls B hP hD hS hl)
theorem R_lmul {x y : Int64} (hd : decode M.2.1 pc = .ok (.lmul, 1))  (hq : pc + 1 = q) (k : Wq X r d M q loc (vL (x * y) :: stk) w Q) : Wq X r d M pc loc (vL y :: vL x :: stk) w Q := by
  subst hq
  intro h1 h2 p e s m args below meth c H locs ls B hP hD hS hl
  exact lv_lmul (rest := stk.map (con X)) B.1 B.2.1 hd  (k h1 h2.tl.tl.l p e s m args below meth c H locs ls B hP hD hS hl)
theorem R_land {x y : Int64} (hd : decode M.2.1 pc = .ok (.land, 1))  (hq : pc + 1 = q) (k : Wq X r d M q loc (vL (x &&& y) :: stk) w Q) : Wq X r d M pc loc (vL y :: vL x :: stk) w Q := by
  subst hq
  intro h1 h2 p e s m args below meth c H locs ls B hP hD hS hl
  exact lv_land (rest := stk.map (con X)) B.1 B.2.1 hd  (k h1 h2.tl.tl.l p e s m args below meth c H locs ls B hP hD hS hl)
theorem R_lor {x y : Int64} (hd : decode M.2.1 pc = .ok (.lor, 1))  (hq : pc + 1 = q) (k : Wq X r d M q loc (vL (x ||| y) :: stk) w Q) : Wq X r d M pc loc (vL y :: vL x :: stk) w Q := by
  subst hq
  intro h1 h2 p e s m args below meth c H locs ls B hP hD hS hl
  exact lv_lor (rest := stk.map (con X)) B.1 B.2.1 hd  (k h1 h2.tl.tl.l p e s m args below meth c H locs ls B hP hD hS hl)
theorem R_ldiv {x y : Int64} (hd : decode M.2.1 pc = .ok (.ldiv, 1)) (hne : ¬ y = 0) (hq : pc + 1 = q) (k : Wq X r d M q loc (vL (x / y) :: stk) w Q) : Wq X r d M pc loc (vL y :: vL x :: stk) w Q := by
  subst hq
  intro h1 h2 p e s m args below meth c H locs ls B hP hD hS hl
  exact lv_ldiv (rest := stk.map (con X)) B.1 B.2.1 hd hne (k h1 h2.tl.tl.l p e s m args below meth c H locs ls B hP hD hS hl)
theorem R_lrem {x y : Int64} (hd : decode M.2.1 pc = .ok (.lrem, 1)) (hne : ¬ y = 0) (hq : pc + 1 = q) (k : Wq X r d M q loc (vL (x - x / y * y) :: stk) w Q) : Wq X r d M pc loc (vL y :: vL x :: stk) w Q := by
  subst hq
  intro h1 h2 p e s m args below meth c H locs ls B hP hD hS hl
  exact lv_lrem (rest := stk.map (con X)) B.1 B.2.1 hd hne (k h1 h2.tl.tl.l p e s m args below meth c H locs ls B hP hD hS hl)
theorem R_lshl {x : Int64} {y : Int32} (hd : decode M.2.1 pc = .ok (.lshl, 1))  (hq : pc + 1 = q) (k : Wq X r d M q loc (vL (x <<< (y.toInt64 &&& 63)) :: stk) w Q) : Wq X r d M pc loc (vI y :: vL x :: stk) w Q := by
  subst hq
  intro h1 h2 p e s m args below meth c H locs ls B hP hD hS hl
  exact lv_lshl (rest := stk.map (con X)) B.1 B.2.1 hd rfl (k h1 h2.tl.tl.l p e s m args below meth c H locs ls B hP hD hS hl)
theorem R_lushr {x : Int64} {y : Int32} (hd : decode M.2.1 pc = .ok (.lushr, 1))  (hq : pc + 1 = q) (k : Wq X r d M q loc (vL ((x.toUInt64 >>> (y.toInt64.toUInt64 &&& Int64.toUInt64 63)).toInt64) :: stk) w Q) : Wq X r d M pc loc (vI y :: vL x :: stk) w Q := by
  subst hq
  intro h1 h2 p e s m args below meth c H locs ls B hP hD hS hl
  exact lv_lushr (rest := stk.map (con X)) B.1 B.2.1 hd rfl (k h1 h2.tl.tl.l p e s m args below meth c H locs ls B hP hD hS hl)
theorem R_dup {v : AV} (hd : decode M.2.1 pc = .ok (.dup, 1)) (hc : cat v = 1) (hq : pc + 1 = q) (k : Wq X r d M q loc (v :: v :: stk) w Q) : Wq X r d M pc loc (v :: stk) w Q := by
  subst hq
  intro h1 h2 p e s m args below meth c H locs ls B hP hD hS hl
  exact lv_dup (va := con X v) (rest := stk.map (con X)) B.1 B.2.1 hd (by rw [con_cat]; exact hc) (k h1 (okl.cons h2.hd h2) p e s m args below meth c H locs ls B hP hD hS hl)
theorem R_dup2 {u v : AV} (hd : decode M.2.1 pc = .ok (.dup2, 1)) (hu : cat u = 1) (hc : cat v = 1) (hq : pc + 1 = q) (k : Wq X r d M q loc (u :: v :: u :: v :: stk) w Q) : Wq X r d M pc loc (u :: v :: stk) w Q := by
  subst hq
  intro h1 h2 p e s m args below meth c H locs ls B hP hD hS hl
  exact lv_dup2_11 (va := con X u) (vb := con X v) (rest := stk.map (con X)) B.1 B.2.1 hd (by rw [con_cat]; exact hu) (by rw [con_cat]; exact hc) (k h1 (okl.cons h2.hd (okl.cons h2.tl.hd h2)) p e s m args below meth c H locs ls B hP hD hS hl)
theorem R_istore_n {k : Fin 4} {i : Nat} {x : Int32} {loc' : Lo} (hd : decode M.2.1 pc = .ok (.istore_n k, 1)) (hi : (k : Nat) = i) (hn : i < M.2.2.1) (hl' : st1 loc i (vI x) = loc') (hq : pc + 1 = q) (k : Wq X r d M q loc' stk w Q) : Wq X r d M pc loc (vI x :: stk) w Q := by
  subst hl'
  subst hq
  intro h1 h2 p e s m args below meth c H locs ls B hP hD hS hl
  exact lv_istore_n (x := x) (rest := stk.map (con X)) B.1 B.2.1 hd hi hl hn (cnL_st1 X loc i (vI x)) (fun ls hl => k (okL_st1 trivial h1) h2.tl p e s m args below meth c H locs ls B hP hD hS hl)
theorem R_istore {i : Nat} {x : Int32} {loc' : Lo} (hd : decode M.2.1 pc = .ok (.istore i, 2))  (hn : i < M.2.2.1) (hl' : st1 loc i (vI x) = loc') (hq : pc + 2 = q) (k : Wq X r d M q loc' stk w Q) : Wq X r d M pc loc (vI x :: stk) w Q := by
  subst hl'
  subst hq
  intro h1 h2 p e s m args below meth c H locs ls B hP hD hS hl
  exact lv_istore (x := x) (rest := stk.map (con X)) B.1 B.2.1 hd  hl hn (cnL_st1 X loc i (vI x)) (fun ls hl => k (okL_st1 trivial h1) h2.tl p e s m args below meth c H locs ls B hP hD hS hl)
theorem R_lstore_n {k : Fin 4} {i : Nat} {x : Int64} {loc' : Lo} (hd : decode M.2.1 pc = .ok (.lstore_n k, 1)) (hi : (k : Nat) = i) (hn : i + 1 < M.2.2.1) (hl' : st2 loc i (vL x) = loc') (hq : pc + 1 = q) (k : Wq X r d M q loc' stk w Q) : Wq X r d M pc loc (vL x :: stk) w Q := by
  subst hl'
  subst hq
  intro h1 h2 p e s m args below meth c H locs ls B hP hD hS hl
  exact lv_lstore_n (x := x) (rest := stk.map (con X)) B.1 B.2.1 hd hi hl hn (cnL_st2 X loc i (vL x)) (fun ls hl => k (okL_st2 trivial h1) h2.tl p e s m args below meth c H locs ls B hP hD hS hl)
theorem R_astore_n {k : Fin 4} {i a n : Nat} {pa : List Nat} {loc' : Lo} (hd : decode M.2.1 pc = .ok (.astore_n k, 1)) (hi : (k : Nat) = i) (hn : i < M.2.2.1) (hl' : st1 loc i (vR a n pa) = loc') (hq : pc + 1 = q) (k : Wq X r d M q loc' stk w Q) : Wq X r d M pc loc (vR a n pa :: stk) w Q := by
  subst hl'
  subst hq
  intro h1 h2 p e s m args below meth c H locs ls B hP hD hS hl
  exact lv_astore_n (rest := stk.map (con X)) B.1 B.2.1 hd hi hl hn (cnL_st1 X loc i (vR a n pa)) (fun ls hl => k (okL_st1 h2.hd h1) h2.tl p e s m args below meth c H locs ls B hP hD hS hl)
theorem R_iinc {i : Nat} {n : Int} {x v : Int32} {loc' : Lo} (hd : decode M.2.1 pc = .ok (.iinc i n, 3)) (hg : lgt loc i = some (vI x)) (hv : x + Int32.ofInt n = v) (hn : i < M.2.2.1) (hl' : st1 loc i (vI v) = loc') (hq : pc + 3 = q) (k : Wq X r d M q loc' stk w Q) : Wq X r d M pc loc stk w Q := by
  subst hl'
  subst hq
  intro h1 h2 p e s m args below meth c H locs ls B hP hD hS hl
  obtain ⟨j, hj⟩ := List.mem_iff_getElem?.mp (List.mem_map.mpr ⟨(i, vI x), lgt_mem hg, rfl⟩ : (i, con X (vI x)) ∈ cnL X loc)
  exact lv_iinc (rest := stk.map (con X)) B.1 B.2.1 hd hl hj hv hn (cnL_st1 X loc i (vI v)) (fun ls hl => k (okL_st1 trivial h1) h2 p e s m args below meth c H locs ls B hP hD hS hl)
theorem R_goto {off : Int} (hd : decode M.2.1 pc = .ok (.goto off, 3)) (hq : (pc : Int) + off = (q : Int)) (k : Wq X r d M q loc stk w Q) : Wq X r d M pc loc stk w Q := by
  intro h1 h2 p e s m args below meth c H locs ls B hP hD hS hl
  exact lv_goto (rest := stk.map (con X)) B.1 B.2.1 hd hq (k h1 h2 p e s m args below meth c H locs ls B hP hD hS hl)
theorem R_if_eq {x : Int32} {off : Int} {tgt : Nat} (hd : decode M.2.1 pc = .ok (.ifCond .eq off, 3)) (ht : (pc : Int) + off = (tgt : Int)) (hq : pc + 3 = q) (kt : x = 0 → Wq X r d M tgt loc stk w Q) (kf : ¬ x = 0 → Wq X r d M q loc stk w Q) : Wq X r d M pc loc (vI x :: stk) w Q := by
  subst hq
  intro h1 h2 p e s m args below meth c H locs ls B hP hD hS hl
  exact lv_if_eq (rest := stk.map (con X)) B.1 B.2.1 hd ht (fun g => kt g h1 h2.tl p e s m args below meth c H locs ls B hP hD hS hl) (fun g => kf g h1 h2.tl p e s m args below meth c H locs ls B hP hD hS hl)
theorem R_icmp_eq {x y : Int32} {off : Int} {tgt : Nat} (hd : decode M.2.1 pc = .ok (.if_icmp .eq off, 3)) (ht : (pc : Int) + off = (tgt : Int)) (hq : pc + 3 = q) (kt : x = y → Wq X r d M tgt loc stk w Q) (kf : ¬ x = y → Wq X r d M q loc stk w Q) : Wq X r d M pc loc (vI y :: vI x :: stk) w Q := by
  subst hq
  intro h1 h2 p e s m args below meth c H locs ls B hP hD hS hl
  exact lv_icmp_eq (rest := stk.map (con X)) B.1 B.2.1 hd ht (fun g => kt g h1 h2.tl.tl p e s m args below meth c H locs ls B hP hD hS hl) (fun g => kf g h1 h2.tl.tl p e s m args below meth c H locs ls B hP hD hS hl)
theorem R_if_ne {x : Int32} {off : Int} {tgt : Nat} (hd : decode M.2.1 pc = .ok (.ifCond .ne off, 3)) (ht : (pc : Int) + off = (tgt : Int)) (hq : pc + 3 = q) (kt : ¬ x = 0 → Wq X r d M tgt loc stk w Q) (kf : x = 0 → Wq X r d M q loc stk w Q) : Wq X r d M pc loc (vI x :: stk) w Q := by
  subst hq
  intro h1 h2 p e s m args below meth c H locs ls B hP hD hS hl
  exact lv_if_ne (rest := stk.map (con X)) B.1 B.2.1 hd ht (fun g => kt g h1 h2.tl p e s m args below meth c H locs ls B hP hD hS hl) (fun g => kf g h1 h2.tl p e s m args below meth c H locs ls B hP hD hS hl)
theorem R_icmp_ne {x y : Int32} {off : Int} {tgt : Nat} (hd : decode M.2.1 pc = .ok (.if_icmp .ne off, 3)) (ht : (pc : Int) + off = (tgt : Int)) (hq : pc + 3 = q) (kt : ¬ x = y → Wq X r d M tgt loc stk w Q) (kf : x = y → Wq X r d M q loc stk w Q) : Wq X r d M pc loc (vI y :: vI x :: stk) w Q := by
  subst hq
  intro h1 h2 p e s m args below meth c H locs ls B hP hD hS hl
  exact lv_icmp_ne (rest := stk.map (con X)) B.1 B.2.1 hd ht (fun g => kt g h1 h2.tl.tl p e s m args below meth c H locs ls B hP hD hS hl) (fun g => kf g h1 h2.tl.tl p e s m args below meth c H locs ls B hP hD hS hl)
theorem R_if_lt {x : Int32} {off : Int} {tgt : Nat} (hd : decode M.2.1 pc = .ok (.ifCond .lt off, 3)) (ht : (pc : Int) + off = (tgt : Int)) (hq : pc + 3 = q) (kt : x < 0 → Wq X r d M tgt loc stk w Q) (kf : ¬ x < 0 → Wq X r d M q loc stk w Q) : Wq X r d M pc loc (vI x :: stk) w Q := by
  subst hq
  intro h1 h2 p e s m args below meth c H locs ls B hP hD hS hl
  exact lv_if_lt (rest := stk.map (con X)) B.1 B.2.1 hd ht (fun g => kt g h1 h2.tl p e s m args below meth c H locs ls B hP hD hS hl) (fun g => kf g h1 h2.tl p e s m args below meth c H locs ls B hP hD hS hl)
theorem R_icmp_lt {x y : Int32} {off : Int} {tgt : Nat} (hd : decode M.2.1 pc = .ok (.if_icmp .lt off, 3)) (ht : (pc : Int) + off = (tgt : Int)) (hq : pc + 3 = q) (kt : x < y → Wq X r d M tgt loc stk w Q) (kf : ¬ x < y → Wq X r d M q loc stk w Q) : Wq X r d M pc loc (vI y :: vI x :: stk) w Q := by
  subst hq
  intro h1 h2 p e s m args below meth c H locs ls B hP hD hS hl
  exact lv_icmp_lt (rest := stk.map (con X)) B.1 B.2.1 hd ht (fun g => kt g h1 h2.tl.tl p e s m args below meth c H locs ls B hP hD hS hl) (fun g => kf g h1 h2.tl.tl p e s m args below meth c H locs ls B hP hD hS hl)
theorem R_if_ge {x : Int32} {off : Int} {tgt : Nat} (hd : decode M.2.1 pc = .ok (.ifCond .ge off, 3)) (ht : (pc : Int) + off = (tgt : Int)) (hq : pc + 3 = q) (kt : 0 ≤ x → Wq X r d M tgt loc stk w Q) (kf : ¬ 0 ≤ x → Wq X r d M q loc stk w Q) : Wq X r d M pc loc (vI x :: stk) w Q := by
  subst hq
  intro h1 h2 p e s m args below meth c H locs ls B hP hD hS hl
  exact lv_if_ge (rest := stk.map (con X)) B.1 B.2.1 hd ht (fun g => kt g h1 h2.tl p e s m args below meth c H locs ls B hP hD hS hl) (fun g => kf g h1 h2.tl p e s m args below meth c H locs ls B hP hD hS hl)
theorem R_icmp_ge {x y : Int32} {off : Int} {tgt : Nat} (hd : decode M.2.1 pc = .ok (.if_icmp .ge off, 3)) (ht : (pc : Int) + off = (tgt : Int)) (hq : pc + 3 = q) (kt : y ≤ x → Wq X r d M tgt loc stk w Q) (kf : ¬ y ≤ x → Wq X r d M q loc stk w Q) : Wq X r d M pc loc (vI y :: vI x :: stk) w Q := by
  subst hq
  intro h1 h2 p e s m args below meth c H locs ls B hP hD hS hl
  exact lv_icmp_ge (rest := stk.map (con X)) B.1 B.2.1 hd ht (fun g => kt g h1 h2.tl.tl p e s m args below meth c H locs ls B hP hD hS hl) (fun g => kf g h1 h2.tl.tl p e s m args below meth c H locs ls B hP hD hS hl)
theorem R_if_gt {x : Int32} {off : Int} {tgt : Nat} (hd : decode M.2.1 pc = .ok (.ifCond .gt off, 3)) (ht : (pc : Int) + off = (tgt : Int)) (hq : pc + 3 = q) (kt : 0 < x → Wq X r d M tgt loc stk w Q) (kf : ¬ 0 < x → Wq X r d M q loc stk w Q) : Wq X r d M pc loc (vI x :: stk) w Q := by
  subst hq
  intro h1 h2 p e s m args below meth c H locs ls B hP hD hS hl
  exact lv_if_gt (rest := stk.map (con X)) B.1 B.2.1 hd ht (fun g => kt g h1 h2.tl p e s m args below meth c H locs ls B hP hD hS hl) (fun g => kf g h1 h2.tl p e s m args below meth c H locs ls B hP hD hS hl)
theorem R_icmp_gt {x y : Int32} {off : Int} {tgt : Nat} (hd : decode M.2.1 pc = .ok (.if_icmp .gt off, 3)) (ht : (pc : Int) + off = (tgt : Int)) (hq : pc + 3 = q) (kt : y < x → Wq X r d M tgt loc stk w Q) (kf : ¬ y < x → Wq X r d M q loc stk w Q) : Wq X r d M pc loc (vI y :: vI x :: stk) w Q := by
  subst hq
  intro h1 h2 p e s m args below meth c H locs ls B hP hD hS hl
  exact lv_icmp_gt (rest := stk.map (con X)) B.1 B.2.1 hd ht (fun g => kt g h1 h2.tl.tl p e s m args below meth c H locs ls B hP hD hS hl) (fun g => kf g h1 h2.tl.tl p e s m args below meth c H locs ls B hP hD hS hl)
theorem R_if_le {x : Int32} {off : Int} {tgt : Nat} (hd : decode M.2.1 pc = .ok (.ifCond .le off, 3)) (ht : (pc : Int) + off = (tgt : Int)) (hq : pc + 3 = q) (kt : x ≤ 0 → Wq X r d M tgt loc stk w Q) (kf : ¬ x ≤ 0 → Wq X r d M q loc stk w Q) : Wq X r d M pc loc (vI x :: stk) w Q := by
  subst hq
  intro h1 h2 p e s m args below meth c H locs ls B hP hD hS hl
  exact lv_if_le (rest := stk.map (con X)) B.1 B.2.1 hd ht (fun g => kt g h1 h2.tl p e s m args below meth c H locs ls B hP hD hS hl) (fun g => kf g h1 h2.tl p e s m args below meth c H locs ls B hP hD hS hl)
theorem R_icmp_le {x y : Int32} {off : Int} {tgt : Nat} (hd : decode M.2.1 pc = .ok (.if_icmp .le off, 3)) (ht : (pc : Int) + off = (tgt : Int)) (hq : pc + 3 = q) (kt : x ≤ y → Wq X r d M tgt loc stk w Q) (kf : ¬ x ≤ y → Wq X r d M q loc stk w Q) : Wq X r d M pc loc (vI y :: vI x :: stk) w Q := by
  subst hq
  intro h1 h2 p e s m args below meth c H locs ls B hP hD hS hl
  exact lv_icmp_le (rest := stk.map (con X)) B.1 B.2.1 hd ht (fun g => kt g h1 h2.tl.tl p e s m args below meth c H locs ls B hP hD hS hl) (fun g => kf g h1 h2.tl.tl p e s m args below meth c H locs ls B hP hD hS hl)
theorem R_lcmp {x y : Int64} (hd : decode M.2.1 pc = .ok (.lcmp, 1)) (hq : pc + 1 = q) (k : Wq X r d M q loc (vI (lg_cmp x y) :: stk) w Q) : Wq X r d M pc loc (vL y :: vL x :: stk) w Q := by
  subst hq
  intro h1 h2 p e s m args below meth c H locs ls B hP hD hS hl
  exact W.lcmp (rest := stk.map (con X)) B.1 B.2.1 hd (k h1 h2.tl.tl.i p e s m args below meth c H locs ls B hP hD hS hl)
theorem R_tableIn {dflt lo hi : Int} {offs : Array Int} {len : Nat} {x : Int32} {off : Int} (hd : decode M.2.1 pc = .ok (.tableswitch dflt lo hi offs, len)) (ha : ¬ x.toInt < lo) (hb : ¬ hi < x.toInt) (ho : offs[(x.toInt - lo).toNat]? = some off) (hq : (pc : Int) + off = (q : Int)) (k : Wq X r d M q loc stk w Q) : Wq X r d M pc loc (vI x :: stk) w Q := by
  intro h1 h2 p e s m args below meth c H locs ls B hP hD hS hl
  exact lv_tableIn (rest := stk.map (con X)) B.1 B.2.1 hd ha hb ho hq (k h1 h2.tl p e s m args below meth c H locs ls B hP hD hS hl)
theorem R_tableOut {dflt lo hi : Int} {offs : Array Int} {len : Nat} {x : Int32} (hd : decode M.2.1 pc = .ok (.tableswitch dflt lo hi offs, len)) (ha : x.toInt < lo ∨ hi < x.toInt) (hq : (pc : Int) + dflt = (q : Int)) (k : Wq X r d M q loc stk w Q) : Wq X r d M pc loc (vI x :: stk) w Q := by
  intro h1 h2 p e s m args below meth c H locs ls B hP hD hS hl
  exact lv_tableOut (rest := stk.map (con X)) B.1 B.2.1 hd ha hq (k h1 h2.tl p e s m args below meth c H locs ls B hP hD hS hl)
theorem R_lookup {dflt : Int} {ps : Array (Int × Int)} {len : Nat} {x : Int32} {off : Int} (hd : decode M.2.1 pc = .ok (.lookupswitch dflt ps, len)) (hp : (ps.toList.zip (ps.toList.drop 1)).all (fun (a, next) => a.1 < next.1) = true) (ho : Op.lookupswitch.offset ps.toList dflt x.toInt = off) (hq : (pc : Int) + off = (q : Int)) (k : Wq X r d M q loc stk w Q) : Wq X r d M pc loc (vI x :: stk) w Q := by
  intro h1 h2 p e s m args below meth c H locs ls B hP hD hS hl
  exact lv_lookup (rest := stk.map (con X)) B.1 B.2.1 hd hp ho hq (k h1 h2.tl p e s m args below meth c H locs ls B hP hD hS hl)
end RU
end
section
/-! fields -/
def clsOK (a : Nat) (C : String) (T : u_T) (N : Nat) (ty : Nat → FieldType) : Prop := vwCl[a]? = some (C, T, N) ∧ N = nf a ∧ a < 9 ∧ (∀ w ∈ u_ws C T N, w ∈ tbG) ∧ (∀ k, k < N → parseFieldDescriptor (T k).2.2.1 = some (ty k)) ∧ (∀ x, x < N → ∀ y, y < N → x ≠ y → (T x).2.1 ≠ (T y).2.1)
/-- a field's link: of the class of number a, the slot k; f: it is final; t: its type -/
def FL (own : String) (i a k : Nat) (f : Bool) (t : FieldType) : Prop := ∃ (C : String) (T : u_T) (N : Nat) (ty : Nat → FieldType), clsOK a C T N ty ∧ k < N ∧ (T k).1 = C ∧ (T k).2.2.2 = f ∧ ty k = t ∧ (Cond.fieldLink own i C (T k).2.1 (T k).2.2.1 ∈ tbG ∨ ∃ h, Cond.fieldLinkNest own i C (T k).2.1 (T k).2.2.1 h ∈ tbN)
theorem cellE_obj {X : Cx} {w : Wd} {pa : List Nat} {a n : Nat} (ha : a < 9) : cellE X w (pa, a, n) = (adr X a pa, .inr (a, (List.range (nf a)).map (fv X w pa a))) := by
  have h1 : adr X a pa = X.2.2.2.1 pa := by
    unfold adr
    rw [if_neg (by omega), if_neg (by omega)]
  rw [h1]
  simp only [cellE, if_pos ha]
theorem cellE_int {X : Cx} {w : Wd} {pa : List Nat} {n : Nat} : cellE X w (pa, 9, n) = (adr X 9 pa, .inl (X.2.2.1 0, n, .inl (w.1 pa))) := rfl
theorem cellE_bool {X : Cx} {w : Wd} {pa : List Nat} {n : Nat} : cellE X w (pa, 10, n) = (adr X 10 pa, .inl (X.2.2.1 1, n, .inl (w.1 pa))) := rfl
theorem cellE_arr {X : Cx} {w : Wd} {pa : List Nat} {n : Nat} : cellE X w (pa, 11, n) = (adr X 11 pa, .inl (X.2.2.1 2, n, .inr (.inr (.inr (.inr (fun i => some (X.2.2.2.1 (i :: pa)))))))) := rfl
theorem okv_obj {r a n : Nat} {pa : List Nat} (ha : a < 13) (h : okv r (vR a n pa)) : (pa, a, n) ∈ PT r := by
  rcases h with ⟨h, -⟩ | ⟨h, -⟩ | ⟨-, h⟩
  · dsimp only at h; omega
  · dsimp only at h; omega
  · exact h
def ptc (r : Nat) : Bool := (PT r).all fun e => (List.range (nf e.2.1)).all fun k => !(decide ((fk e.2.1 k).1 < 100)) || (decide ((fk e.2.1 k).1 < 13) && decide ((k :: e.1, fk e.2.1 k) ∈ PT r))
def pte (r : Nat) : Bool := (PT r).all fun e => !(decide (e.2.1 = 11)) || (List.range e.2.2).all fun k => decide ((k :: e.1, 5, 0) ∈ PT r)
theorem ptc_t (r : Nat) : ptc r = true := by
  match r with
  | 0 => decide +kernel
  | 1 => decide +kernel
  | _ + 2 => rfl
theorem pte_t (r : Nat) : pte r = true := by
  match r with
  | 0 => decide +kernel
  | 1 => decide +kernel
  | _ + 2 => rfl
theorem PT_ref : ∀ r, ∀ e ∈ PT r, ∀ k, k < nf e.2.1 → (fk e.2.1 k).1 < 100 → (fk e.2.1 k).1 < 13 ∧ (k :: e.1, fk e.2.1 k) ∈ PT r := by
  intro r e he k hk h1
  have h := List.all_eq_true.mp (List.all_eq_true.mp (ptc_t r) e he) k (List.mem_range.mpr hk)
  simp only [Bool.or_eq_true, Bool.not_eq_true', decide_eq_false_iff_not, Bool.and_eq_true, decide_eq_true_eq] at h
  rcases h with h | h
  · exact absurd h1 h
  · exact h
theorem PT_elm : ∀ r, ∀ e ∈ PT r, e.2.1 = 11 → ∀ k, k < e.2.2 → (k :: e.1, 5, 0) ∈ PT r := by
  intro r e he h1 k hk
  have h := List.all_eq_true.mp (pte_t r) e he
  simp only [Bool.or_eq_true, Bool.not_eq_true', decide_eq_false_iff_not] at h
  rcases h with h | h
  · exact absurd h1 h
  · have h2 := List.all_eq_true.mp h k (List.mem_range.mpr hk)
    simpa using h2
theorem va_get2 {p : Program} {l : Launch} {e : Env} {R : Room} {s : State} {m : MethodId} {args : Array Value} {below : List Frame} {meth : Method} {c : Code} {H : Heap} {locs : List Loc} {cells slots : Nat} {Q : State → Prop} {cc : ByteArray} {pc : Nat} {ls : Array Slot} {rest : List Value} {D : va_G} {cl : List vw_C} {aa : Nat} {tys : List (ClassId × FieldType)} {ws : va_W}
    (hexec : p.tables.exec = Jvm.exec) (hb : c.code = cc) {own C : String} {T : u_T} {N ci index : Nat} (hts : ∀ w ∈ tbG, w.before args s = true) (hn : Ns s) (hin : ∀ w ∈ u_ws C T N, w ∈ tbG) (hown : s.vm.findClass own = some m.cls) (hK : va_K D cl tys s) (hP : va_P D cl ws H) (q0 : Nat) {fs : List Value} (he : ws[q0]? = some (aa, .inr (ci, fs))) (hc : cl[ci]? = some (C, T, N)) (k : Nat) (hk : k < N) (ht : (T k).1 = C)
    (hl : Cond.fieldLink own index C (T k).2.1 (T k).2.2.1 ∈ tbG ∨ ∃ h, Cond.fieldLinkNest own index C (T k).2.1 (T k).2.2.1 h ∈ tbN) {v : Value} (hv : fs[k]? = some v) (hdg : decode cc pc = .ok (.getfield index, 3))
    (kk : W p l e R s m args below meth c H locs cells slots Q (F0 m (pc + 3) ls (v :: rest))) : W p l e R s m args below meth c H locs cells slots Q (F0 m pc ls (.ref aa :: rest)) := by
  rcases hl with hl | ⟨h, hl⟩
  · exact va_get hexec hb hts hin hown hK hP q0 he hc k hk (hts _ hl) (fun x hx => by rw [← ht]; exact hx) hv hdg kk
  · exact va_getN hexec hb hts hin hown hK hP q0 he hc k hk (va_Nw.use rfl (hn _ hl)) (fun x hx => by rw [← ht]; exact hx) hv hdg kk
section RH
variable {X : Cx} {r d : Nat} {M : Mth} {pc q : Nat} {loc : Lo} {stk : List AV} {w : Wd} {Q : Option AV → Wd → Prop}
theorem R_getI {i a n k : Nat} {pa : List Nat} {f : Bool} {t : FieldType} (hd : decode M.2.1 pc = .ok (.getfield i, 3)) (hf : FL M.2.2.2.2 i a k f t) (hk : (fk a k).1 = 100) (hq : pc + 3 = q) (kk : Wq X r d M q loc (vI (w.1 pa k) :: stk) w Q) : Wq X r d M pc loc (vR a n pa :: stk) w Q := by
  subst hq
  intro h1 h2 p e s m args below meth c H locs ls B hP hD hS hl
  obtain ⟨C, T, N, ty, ⟨hc, hN, ha, hin, hty, hnm⟩, hkN, hT, -, -, hlk⟩ := hf
  obtain ⟨j, -, hj⟩ := wld_at (X := X) (w := w) (okv_obj (by omega) h2.hd)
  rw [cellE_obj ha] at hj
  refine va_get2 (v := .int (w.1 pa k)) (rest := stk.map (con X)) B.1 B.2.1 B.2.2.2.2.2.2.1 B.2.2.2.2.2.2.2.2.1 hin B.2.2.2.2.2.1 B.2.2.2.2.2.2.2.1 hP j hj hc k hkN hT hlk ?_ hd (kk h1 h2.tl.i p e s m args below meth c H locs ls B hP hD hS hl)
  rw [List.getElem?_map, List.getElem?_range (by rw [← hN]; exact hkN)]
  simp only [Option.map_some, fv, hk, if_true]
theorem R_getL {i a n k : Nat} {pa : List Nat} {f : Bool} {t : FieldType} (hd : decode M.2.1 pc = .ok (.getfield i, 3)) (hf : FL M.2.2.2.2 i a k f t) (hk : (fk a k).1 = 101) (hq : pc + 3 = q) (kk : Wq X r d M q loc (vL (w.2 pa) :: stk) w Q) : Wq X r d M pc loc (vR a n pa :: stk) w Q := by
  subst hq
  intro h1 h2 p e s m args below meth c H locs ls B hP hD hS hl
  obtain ⟨C, T, N, ty, ⟨hc, hN, ha, hin, hty, hnm⟩, hkN, hT, -, -, hlk⟩ := hf
  obtain ⟨j, -, hj⟩ := wld_at (X := X) (w := w) (okv_obj (by omega) h2.hd)
  rw [cellE_obj ha] at hj
  refine va_get2 (v := .long (w.2 pa)) (rest := stk.map (con X)) B.1 B.2.1 B.2.2.2.2.2.2.1 B.2.2.2.2.2.2.2.2.1 hin B.2.2.2.2.2.1 B.2.2.2.2.2.2.2.1 hP j hj hc k hkN hT hlk ?_ hd (kk h1 h2.tl.l p e s m args below meth c H locs ls B hP hD hS hl)
  rw [List.getElem?_map, List.getElem?_range (by rw [← hN]; exact hkN)]
  simp only [Option.map_some, fv, hk]
  rfl
theorem R_getR {i a n k b nb : Nat} {pa : List Nat} {f : Bool} {t : FieldType} (hd : decode M.2.1 pc = .ok (.getfield i, 3)) (hf : FL M.2.2.2.2 i a k f t) (hk : fk a k = (b, nb)) (hb : b < 100) (hq : pc + 3 = q) (kk : Wq X r d M q loc (vR b nb (k :: pa) :: stk) w Q) : Wq X r d M pc loc (vR a n pa :: stk) w Q := by
  subst hq
  intro h1 h2 p e s m args below meth c H locs ls B hP hD hS hl
  obtain ⟨C, T, N, ty, ⟨hc, hN, ha, hin, hty, hnm⟩, hkN, hT, -, -, hlk⟩ := hf
  have hm := okv_obj (by omega) h2.hd
  obtain ⟨j, -, hj⟩ := wld_at (X := X) (w := w) hm
  have hr := PT_ref r _ hm k (by rw [← hN]; exact hkN) (by dsimp only; rw [hk]; exact hb)
  dsimp only at hr
  rw [hk] at hr
  rw [cellE_obj ha] at hj
  have hadr : adr X b (k :: pa) = X.2.2.2.1 (k :: pa) := by
    unfold adr
    have := hr.1
    dsimp only at this
    rw [if_neg (by omega), if_neg (by omega)]
  refine va_get2 (v := .ref (adr X b (k :: pa))) (rest := stk.map (con X)) B.1 B.2.1 B.2.2.2.2.2.2.1 B.2.2.2.2.2.2.2.2.1 hin B.2.2.2.2.2.1 B.2.2.2.2.2.2.2.1 hP j hj hc k hkN hT hlk ?_ hd (kk h1 (okl.cons (Or.inr (Or.inr hr)) h2.tl) p e s m args below meth c H locs ls B hP hD hS hl)
  rw [List.getElem?_map, List.getElem?_range (by rw [← hN]; exact hkN), hadr]
  simp only [Option.map_some, fv, hk]
  rw [if_neg (by omega), if_neg (by omega)]
theorem fv_set {X : Cx} {w w' : Wd} {pa : List Nat} {a k : Nat} {v : Value} (hk : k < nf a) (hv : fv X w' pa a k = v) (ho : ∀ j, j ≠ k → fv X w' pa a j = fv X w pa a j) : ((List.range (nf a)).map (fv X w pa a)).set k v = (List.range (nf a)).map (fv X w' pa a) := by
  apply List.ext_getElem?
  intro j
  by_cases hj : k = j
  · subst hj
    rw [List.getElem?_set_self (by simp [hk]), List.getElem?_map, List.getElem?_range hk, Option.map_some, hv]
  · rw [List.getElem?_set_ne hj, List.getElem?_map, List.getElem?_map]
    by_cases hlt : j < nf a
    · rw [List.getElem?_range hlt, Option.map_some, Option.map_some, ho j (fun h => hj h.symm)]
    · rw [List.getElem?_eq_none (by simpa using hlt)]
      rfl
theorem R_putI {i a n k : Nat} {pa : List Nat} {x : Int32} (hd : decode M.2.1 pc = .ok (.putfield i, 3)) (hf : FL M.2.2.2.2 i a k false .int) (hk : (fk a k).1 = 100) (hq : pc + 3 = q) (kk : Wq X r d M q loc stk (uI w pa k x) Q) : Wq X r d M pc loc (vI x :: vR a n pa :: stk) w Q := by
  subst hq
  intro h1 h2 p e s m args below meth c H locs ls B hP hD hS hl
  obtain ⟨C, T, N, ty, ⟨hc, hN, ha, hin, hty, hnm⟩, hkN, hT, hfin, htk, hlk⟩ := hf
  have hm := okv_obj (by omega) h2.tl.hd
  obtain ⟨j, hj0, hj⟩ := wld_at (X := X) (w := w) hm
  rw [cellE_obj ha] at hj
  have hfv : ((List.range (nf a)).map (fv X w pa a)).set k (.int x) = (List.range (nf a)).map (fv X (uI w pa k x) pa a) := by
    refine fv_set (by rw [← hN]; exact hkN) ?_ ?_
    · simp only [fv, hk, if_true, uI, uA_same, upd]
    · intro y hy
      unfold fv
      simp only [uI, uA_same, upd, if_neg hy]
      rfl
  have hset : (wld X r w).set j (adr X a pa, .inr (a, ((List.range (nf a)).map (fv X w pa a)).set k (.int x))) = wld X r (uI w pa k x) := by
    rw [hfv, ← cellE_obj (n := n) ha]
    exact wld_set hj0 (fun y hy => ⟨uA_ne hy, rfl⟩)
  have hlen : k < ((List.range (nf a)).map (fv X w pa a)).length := by simp only [List.length_map, List.length_range]; rw [← hN]; exact hkN
  have kk2 : ∀ (H1 : Heap) (locs1 : List Loc), va_P X.2.1 vwCl ((wld X r w).set j (adr X a pa, .inr (a, ((List.range (nf a)).map (fv X w pa a)).set k (.int x)))) H1 → va_D (Ar X r) ((wld X r w).set j (adr X a pa, .inr (a, ((List.range (nf a)).map (fv X w pa a)).set k (.int x)))) → va_S (Ar X r) s.heap H1 locs1 → W p X.1 e (rmD d) s m args below meth c H1 locs1 0 0 (MQ below (Qres X r Q) args s 0 0 (Ar X r)) (F0 m (pc + 3) ls (stk.map (con X))) := by
    intro H1 locs1 hP1 hD1 hS1
    rw [hset] at hP1 hD1
    exact kk h1 h2.tl.tl p e s m args below meth c H1 locs1 ls B hP1 hD1 hS1 hl
  rcases hlk with hlk | ⟨hh, hlk⟩
  · exact va_put (v := .int x) (ty := .int) (rest := stk.map (con X)) B.1 B.2.1 B.2.2.2.2.2.2.1 hin ty hty hnm B.2.2.2.2.2.1 B.2.2.2.2.2.2.2.1 hP hD hS j hj hc k hkN (B.2.2.2.2.2.2.1 _ hlk) (fun x hx => by rw [← hT]; exact hx) hfin (by rw [hty k hkN, htk]) rfl rfl hlen hd kk2
  · exact va_putN (v := .int x) (ty := .int) (rest := stk.map (con X)) B.1 B.2.1 B.2.2.2.2.2.2.1 hin ty hty hnm B.2.2.2.2.2.1 B.2.2.2.2.2.2.2.1 hP hD hS j hj hc k hkN (va_Nw.use rfl (B.2.2.2.2.2.2.2.2.1 _ hlk)) (fun x hx => by rw [← hT]; exact hx) hfin (by rw [hty k hkN, htk]) rfl rfl hlen hd kk2
theorem R_putL {i a n k : Nat} {pa : List Nat} {x : Int64} (hd : decode M.2.1 pc = .ok (.putfield i, 3)) (hf : FL M.2.2.2.2 i a k false .long) (hk : (fk a k).1 = 101) (h1l : ∀ j, (fk a j).1 = 101 → j = k) (hq : pc + 3 = q) (kk : Wq X r d M q loc stk (uL w pa x) Q) : Wq X r d M pc loc (vL x :: vR a n pa :: stk) w Q := by
  subst hq
  intro h1 h2 p e s m args below meth c H locs ls B hP hD hS hl
  obtain ⟨C, T, N, ty, ⟨hc, hN, ha, hin, hty, hnm⟩, hkN, hT, hfin, htk, hlk⟩ := hf
  have hm := okv_obj (by omega) h2.tl.hd
  obtain ⟨j, hj0, hj⟩ := wld_at (X := X) (w := w) hm
  rw [cellE_obj ha] at hj
  have hfv : ((List.range (nf a)).map (fv X w pa a)).set k (.long x) = (List.range (nf a)).map (fv X (uL w pa x) pa a) := by
    refine fv_set (by rw [← hN]; exact hkN) ?_ ?_
    · simp [fv, hk, uL]
    · intro y hy
      have h3 : ¬ (fk a y).1 = 101 := fun h => hy (h1l y h)
      unfold fv
      rw [if_neg h3, if_neg h3]
      rfl
  have hset : (wld X r w).set j (adr X a pa, .inr (a, ((List.range (nf a)).map (fv X w pa a)).set k (.long x))) = wld X r (uL w pa x) := by
    rw [hfv, ← cellE_obj (n := n) ha]
    exact wld_set hj0 (fun y hy => ⟨rfl, by simp only [uL]; rw [if_neg hy]⟩)
  have hlen : k < ((List.range (nf a)).map (fv X w pa a)).length := by simp only [List.length_map, List.length_range]; rw [← hN]; exact hkN
  have kk2 : ∀ (H1 : Heap) (locs1 : List Loc), va_P X.2.1 vwCl ((wld X r w).set j (adr X a pa, .inr (a, ((List.range (nf a)).map (fv X w pa a)).set k (.long x)))) H1 → va_D (Ar X r) ((wld X r w).set j (adr X a pa, .inr (a, ((List.range (nf a)).map (fv X w pa a)).set k (.long x)))) → va_S (Ar X r) s.heap H1 locs1 → W p X.1 e (rmD d) s m args below meth c H1 locs1 0 0 (MQ below (Qres X r Q) args s 0 0 (Ar X r)) (F0 m (pc + 3) ls (stk.map (con X))) := by
    intro H1 locs1 hP1 hD1 hS1
    rw [hset] at hP1 hD1
    exact kk h1 h2.tl.tl p e s m args below meth c H1 locs1 ls B hP1 hD1 hS1 hl
  rcases hlk with hlk | ⟨hh, hlk⟩
  · exact va_put (v := .long x) (ty := .long) (rest := stk.map (con X)) B.1 B.2.1 B.2.2.2.2.2.2.1 hin ty hty hnm B.2.2.2.2.2.1 B.2.2.2.2.2.2.2.1 hP hD hS j hj hc k hkN (B.2.2.2.2.2.2.1 _ hlk) (fun x hx => by rw [← hT]; exact hx) hfin (by rw [hty k hkN, htk]) rfl rfl hlen hd kk2
  · exact va_putN (v := .long x) (ty := .long) (rest := stk.map (con X)) B.1 B.2.1 B.2.2.2.2.2.2.1 hin ty hty hnm B.2.2.2.2.2.1 B.2.2.2.2.2.2.2.1 hP hD hS j hj hc k hkN (va_Nw.use rfl (B.2.2.2.2.2.2.2.2.1 _ hlk)) (fun x hx => by rw [← hT]; exact hx) hfin (by rw [hty k hkN, htk]) rfl rfl hlen hd kk2
/-! arrays -/
theorem R_iald {n b : Nat} {i : Int32} {pa : List Nat} (hd : decode M.2.1 pc = .ok (.iaload, 1)) (hi : i = nI b) (hb : b < n) (hn : n < 2 ^ 31) (hq : pc + 1 = q) (kk : Wq X r d M q loc (vI (w.1 pa b) :: stk) w Q) : Wq X r d M pc loc (vI i :: vR 9 n pa :: stk) w Q := by
  subst hq; subst hi
  intro h1 h2 p e s m args below meth c H locs ls B hP hD hS hl
  obtain ⟨j, -, hj⟩ := wld_at (X := X) (w := w) (okv_obj (by omega) h2.tl.hd)
  rw [cellE_int] at hj
  refine va_iald (rest := stk.map (con X)) B.1 B.2.1 B.2.2.2.2.2.2.2.1 hP j 0 hj rfl (vp_in_nI hb hn) hd ?_
  rw [nI_clamp (by omega)]
  exact kk h1 h2.tl.tl.i p e s m args below meth c H locs ls B hP hD hS hl
theorem R_zald {n b : Nat} {i : Int32} {pa : List Nat} (hd : decode M.2.1 pc = .ok (.baload, 1)) (hi : i = nI b) (hb : b < n) (hn : n < 2 ^ 31) (hq : pc + 1 = q) (kk : Wq X r d M q loc (vI (w.1 pa b) :: stk) w Q) : Wq X r d M pc loc (vI i :: vR 10 n pa :: stk) w Q := by
  subst hq; subst hi
  intro h1 h2 p e s m args below meth c H locs ls B hP hD hS hl
  obtain ⟨j, -, hj⟩ := wld_at (X := X) (w := w) (okv_obj (by omega) h2.tl.hd)
  rw [cellE_bool] at hj
  refine va_zald (rest := stk.map (con X)) B.1 B.2.1 B.2.2.2.2.2.2.2.1 hP j 1 hj rfl (vp_in_nI hb hn) hd ?_
  rw [nI_clamp (by omega)]
  exact kk h1 h2.tl.tl.i p e s m args below meth c H locs ls B hP hD hS hl
theorem R_aald {n b : Nat} {i : Int32} {pa : List Nat} (hd : decode M.2.1 pc = .ok (.aaload, 1)) (hi : i = nI b) (hb : b < n) (hn : n < 2 ^ 31) (hq : pc + 1 = q) (kk : Wq X r d M q loc (vR 5 0 (b :: pa) :: stk) w Q) : Wq X r d M pc loc (vI i :: vR 11 n pa :: stk) w Q := by
  subst hq; subst hi
  intro h1 h2 p e s m args below meth c H locs ls B hP hD hS hl
  have hm := okv_obj (by omega) h2.tl.hd
  obtain ⟨j, -, hj⟩ := wld_at (X := X) (w := w) hm
  rw [cellE_arr] at hj
  refine va_aldq (rest := stk.map (con X)) B.1 B.2.1 B.2.2.2.2.2.2.2.1 hP j 2 hj rfl (vp_in_nI hb hn) hd ?_
  rw [nI_clamp (by omega)]
  exact kk h1 (okl.cons (Or.inr (Or.inr ⟨Nat.le_of_ble_eq_true rfl, PT_elm r _ hm rfl b hb⟩)) h2.tl.tl) p e s m args below meth c H locs ls B hP hD hS hl
theorem R_alen {n : Nat} {pa : List Nat} (hd : decode M.2.1 pc = .ok (.arraylength, 1)) (hq : pc + 1 = q) (kk : Wq X r d M q loc (vI (nI n) :: stk) w Q) : Wq X r d M pc loc (vR 9 n pa :: stk) w Q := by
  subst hq
  intro h1 h2 p e s m args below meth c H locs ls B hP hD hS hl
  obtain ⟨j, -, hj⟩ := wld_at (X := X) (w := w) (okv_obj (by omega) h2.hd)
  rw [cellE_int] at hj
  exact va_alen (v := nI n) (rest := stk.map (con X)) B.1 B.2.1 B.2.2.2.2.2.2.2.1 hP j 0 hj rfl rfl hd (kk h1 h2.tl.i p e s m args below meth c H locs ls B hP hD hS hl)
theorem R_iast {n b : Nat} {i x : Int32} {pa : List Nat} (hd : decode M.2.1 pc = .ok (.iastore, 1)) (hi : i = nI b) (hb : b < n) (hn : n < 2 ^ 31) (hq : pc + 1 = q) (kk : Wq X r d M q loc stk (uI w pa b x) Q) : Wq X r d M pc loc (vI x :: vI i :: vR 9 n pa :: stk) w Q := by
  subst hq; subst hi
  intro h1 h2 p e s m args below meth c H locs ls B hP hD hS hl
  obtain ⟨j, hj0, hj⟩ := wld_at (X := X) (w := w) (okv_obj (by omega) h2.tl.tl.hd)
  rw [cellE_int] at hj
  refine va_iast (rest := stk.map (con X)) B.1 B.2.1 B.2.2.2.2.2.2.2.1 hP hD hS j 0 hj rfl (vp_in_nI hb hn) hd ?_
  intro H1 locs1 hP1 hD1 hS1
  rw [nI_clamp (by omega)] at hP1 hD1
  have hset : (wld X r w).set j (adr X 9 pa, .inl (X.2.2.1 0, n, .inl (upd (w.1 pa) b x))) = wld X r (uI w pa b x) := by
    rw [← wld_set (w := w) (w' := uI w pa b x) hj0 (fun y hy => ⟨uA_ne hy, rfl⟩), cellE_int, uI, uA_same]
  rw [hset] at hP1 hD1
  exact kk h1 h2.tl.tl.tl p e s m args below meth c H1 locs1 ls B hP1 hD1 hS1 hl
theorem R_zast {n b : Nat} {i x : Int32} {pa : List Nat} (hd : decode M.2.1 pc = .ok (.bastore, 1)) (hi : i = nI b) (hb : b < n) (hn : n < 2 ^ 31) (hx : x &&& 1 = x) (hq : pc + 1 = q) (kk : Wq X r d M q loc stk (uI w pa b x) Q) : Wq X r d M pc loc (vI x :: vI i :: vR 10 n pa :: stk) w Q := by
  subst hq; subst hi
  intro h1 h2 p e s m args below meth c H locs ls B hP hD hS hl
  obtain ⟨j, hj0, hj⟩ := wld_at (X := X) (w := w) (okv_obj (by omega) h2.tl.tl.hd)
  rw [cellE_bool] at hj
  refine va_zast (rest := stk.map (con X)) B.1 B.2.1 B.2.2.2.2.2.2.2.1 hP hD hS j 1 hj rfl (vp_in_nI hb hn) hd ?_
  intro H1 locs1 hP1 hD1 hS1
  rw [nI_clamp (by omega), show vp_nar .boolean x = x from hx] at hP1 hD1
  have hset : (wld X r w).set j (adr X 10 pa, .inl (X.2.2.1 1, n, .inl (upd (w.1 pa) b x))) = wld X r (uI w pa b x) := by
    rw [← wld_set (w := w) (w' := uI w pa b x) hj0 (fun y hy => ⟨uA_ne hy, rfl⟩), cellE_bool, uI, uA_same]
  rw [hset] at hP1 hD1
  exact kk h1 h2.tl.tl.tl p e s m args below meth c H1 locs1 ls B hP1 hD1 hS1 hl
def dEl (k : Nat) : Int64 := match k with
  | 0 => 1
  | 1 => 1000
  | 2 => 1000000
  | 3 => 1000000000
  | _ => 1000000000000
def oBi (k : Nat) : Int32 := match k with
  | 0 => 0
  | 1 => 6
  | 2 => 2
  | 3 => 2
  | _ => 6
theorem dE_l (k : Nat) : dE k = .long (dEl k) := match k with
  | 0 => rfl
  | 1 => rfl
  | 2 => rfl
  | 3 => rfl
  | _ + 4 => rfl
theorem oB_i (k : Nat) : oB k = .int (oBi k) := match k with
  | 0 => rfl
  | 1 => rfl
  | 2 => rfl
  | 3 => rfl
  | _ + 4 => rfl
theorem R_gets13 {i : Nat} (hd : decode M.2.1 pc = .ok (.getstatic i, 3)) (hl0 : Cond.fieldLink M.2.2.2.2 i "TwoHalves" "DOINGS_END" "[J" ∈ tbG) (hq : pc + 3 = q) (kk : Wq X r d M q loc (vR 13 5 [] :: stk) w Q) : Wq X r d M pc loc stk w Q := by
  subst hq
  intro h1 h2 p e s m args below meth c H locs ls B hP hD hS hl
  exact va_gets (rest := stk.map (con X)) B.1 B.2.1 B.2.2.2.2.2.2.2.2.2.1 hS B.2.2.2.2.2.1 (B.2.2.2.2.2.2.1 _ hl0) (fun _ h => h) hd (kk h1 (okl.cons (Or.inl ⟨rfl, rfl⟩) h2) p e s m args below meth c H locs ls B hP hD hS hl)
theorem R_gets14 {i : Nat} (hd : decode M.2.1 pc = .ok (.getstatic i, 3)) (hl0 : Cond.fieldLink M.2.2.2.2 i "TwoHalves" "ORDERS_BY_LOST" "[I" ∈ tbG) (hq : pc + 3 = q) (kk : Wq X r d M q loc (vR 14 5 [] :: stk) w Q) : Wq X r d M pc loc stk w Q := by
  subst hq
  intro h1 h2 p e s m args below meth c H locs ls B hP hD hS hl
  exact va_gets (rest := stk.map (con X)) B.1 B.2.1 B.2.2.2.2.2.2.2.2.2.2.2.1 hS B.2.2.2.2.2.1 (B.2.2.2.2.2.2.1 _ hl0) (fun _ h => h) hd (kk h1 (okl.cons (Or.inr (Or.inl ⟨rfl, rfl⟩)) h2) p e s m args below meth c H locs ls B hP hD hS hl)
theorem R_lald13 {n b : Nat} {i : Int32} {pa : List Nat} (hd : decode M.2.1 pc = .ok (.laload, 1)) (hi : i = nI b) (hb : b < 5) (hq : pc + 1 = q) (kk : Wq X r d M q loc (vL (dEl b) :: stk) w Q) : Wq X r d M pc loc (vI i :: vR 13 n pa :: stk) w Q := by
  subst hq; subst hi
  intro h1 h2 p e s m args below meth c H locs ls B hP hD hS hl
  exact va_tl (v := .long (dEl b)) (rest := stk.map (con X)) B.1 B.2.1 B.2.2.2.2.2.2.2.2.2.2.1 hS (vp_in_nI hb (by decide)) (by rw [nI_clamp (by omega), dE_l]) hd (kk h1 h2.tl.tl.l p e s m args below meth c H locs ls B hP hD hS hl)
theorem R_iald14 {n b : Nat} {i : Int32} {pa : List Nat} (hd : decode M.2.1 pc = .ok (.iaload, 1)) (hi : i = nI b) (hb : b < 5) (hq : pc + 1 = q) (kk : Wq X r d M q loc (vI (oBi b) :: stk) w Q) : Wq X r d M pc loc (vI i :: vR 14 n pa :: stk) w Q := by
  subst hq; subst hi
  intro h1 h2 p e s m args below meth c H locs ls B hP hD hS hl
  exact va_ti (v := .int (oBi b)) (rest := stk.map (con X)) B.1 B.2.1 B.2.2.2.2.2.2.2.2.2.2.2.2 hS (vp_in_nI hb (by decide)) (by rw [nI_clamp (by omega), oB_i]) hd (kk h1 h2.tl.tl.i p e s m args below meth c H locs ls B hP hD hS hl)
/-- System.arraycopy of the first places -/
theorem R_copy {i n0 n1 b : Nat} {sp dp nn : Int32} {p0 p1 : List Nat} (hd : decode M.2.1 pc = .ok (.invokestatic i, 3)) (hl0 : Cond.methodLink M.2.2.2.2 i arraycopyName ∈ tbG) (hw : Cond.native arraycopyName ∈ tbG ∧ Cond.static arraycopyName ∈ tbG ∧ Cond.initialized "java/lang/System" ∈ tbG) (hsp : sp = nI 0) (hdp : dp = nI 0) (hnn : nn = nI b) (hb0 : b ≤ n0) (hb1 : b ≤ n1) (hbb : b < 2 ^ 31) (hc : (stk.map cat).sum ≤ 8) (hq : pc + 3 = q) (kk : Wq X r (d + 1) M q loc stk (uA w p1 (fun k => if k < b then w.1 p0 k else w.1 p1 k)) Q) : Wq X r (d + 1) M pc loc (vI nn :: vI dp :: vR 9 n1 p1 :: vI sp :: vR 9 n0 p0 :: stk) w Q := by
  subst hq; subst hsp; subst hdp; subst hnn
  intro h1 h2 p e s m args below meth c H locs ls B hP hD hS hl
  obtain ⟨j1, hj10, hj1⟩ := wld_at (X := X) (w := w) (okv_obj (by omega) h2.tl.tl.hd)
  obtain ⟨j0, hj00, hj0⟩ := wld_at (X := X) (w := w) (okv_obj (by omega) h2.tl.tl.tl.tl.hd)
  rw [cellE_int] at hj1 hj0
  refine va_copyi (ty := .int) (rest := stk.map (con X)) B.1 B.2.1 (B.2.2.1.trans hl.1.symm) B.2.2.2.2.2.1 (B.2.2.2.2.2.2.1 _ hl0) (B.2.2.2.2.2.2.1 _ hw.1) (B.2.2.2.2.2.2.1 _ hw.2.1) (B.2.2.2.2.2.2.1 _ hw.2.2) B.2.2.2.2.2.2.2.1 hP hD hS j0 j1 0 0 hj0 hj1 rfl rfl rfl (nI_pos (by decide)) (nI_pos (by decide)) (nI_pos hbb) (by rw [nI_clamp (by decide), nI_clamp hbb]; omega) (by rw [nI_clamp (by decide), nI_clamp hbb]; omega) (fun _ _ => rfl) (Nat.le_add_left 1 d) ?_ hd ?_
  · rw [con_sum]
    have h5 : nativeFrameWords "java/lang/System" "arraycopy" 5 + 11 ≤ 32 := by decide
    show _ ≤ 40 * (d + 1)
    omega
  · intro H1 locs1 hP1 hD1 hS1
    rw [nI_clamp (by decide), nI_clamp hbb] at hP1 hD1
    have hset : (wld X r w).set j1 (adr X 9 p1, .inl (X.2.2.1 0, n1, .inl (va_cpy (w.1 p0) (w.1 p1) 0 0 b))) = wld X r (uA w p1 (fun k => if k < b then w.1 p0 k else w.1 p1 k)) := by
      rw [← wld_set (w := w) (w' := uA w p1 (fun k => if k < b then w.1 p0 k else w.1 p1 k)) hj10 (fun y hy => ⟨uA_ne hy, rfl⟩), cellE_int, uA_same]
      have hf : va_cpy (w.1 p0) (w.1 p1) 0 0 b = fun k => if k < b then w.1 p0 k else w.1 p1 k := by
        funext k
        simp [va_cpy]
      rw [hf]
    rw [hset] at hP1 hD1
    exact kk h1 h2.tl.tl.tl.tl.tl p e s m args below meth c H1 locs1 ls B hP1 hD1 hS1 hl
/-! ends -/
theorem R_iret {v : Int32} (hd : decode M.2.1 pc = .ok (.ireturn, 1)) (hr : M.2.2.2.1 = some .int) (hQ : Q (some (vI v)) w) : Wq X r d M pc loc [vI v] w Q := by
  intro h1 h2 p e s m args below meth c H locs ls B hP hD hS hl
  exact W.iret (v := v) B.1 B.2.1 (B.2.2.2.1.trans hr) (fun t ht hW => ⟨⟨some (vI v), w, rfl, hQ, okl.nil.i, by rw [ht]; exact hP, hD⟩, hS.F ht⟩) hS.2.2 hd B.2.2.2.2.1
theorem R_zret {v : Int32} (hd : decode M.2.1 pc = .ok (.ireturn, 1)) (hr : M.2.2.2.1 = some .boolean) (hv : v &&& 1 = v) (hQ : Q (some (vI v)) w) : Wq X r d M pc loc [vI v] w Q := by
  intro h1 h2 p e s m args below meth c H locs ls B hP hD hS hl
  exact W.zret (v := v) (ty := .boolean) B.1 B.2.1 (B.2.2.2.1.trans hr) (congrArg Value.int hv) (fun t ht hW => ⟨⟨some (vI v), w, rfl, hQ, okl.nil.i, by rw [ht]; exact hP, hD⟩, hS.F ht⟩) hS.2.2 hd B.2.2.2.2.1
theorem R_lret {v : Int64} (hd : decode M.2.1 pc = .ok (.lreturn, 1)) (hr : M.2.2.2.1 = some .long) (hQ : Q (some (vL v)) w) : Wq X r d M pc loc [vL v] w Q := by
  intro h1 h2 p e s m args below meth c H locs ls B hP hD hS hl
  exact W.lret (v := v) B.1 B.2.1 (B.2.2.2.1.trans hr) (fun t ht hW => ⟨⟨some (vL v), w, rfl, hQ, okl.nil.l, by rw [ht]; exact hP, hD⟩, hS.F ht⟩) hS.2.2 hd B.2.2.2.2.1
theorem R_vret (hd : decode M.2.1 pc = .ok (.return_, 1)) (hr : M.2.2.2.1 = none) (hQ : Q none w) : Wq X r d M pc loc [] w Q := by
  intro h1 h2 p e s m args below meth c H locs ls B hP hD hS hl
  exact W.vret B.1 B.2.1 (B.2.2.2.1.trans hr) (fun t ht hW => ⟨⟨none, w, rfl, hQ, okl.nil, by rw [ht]; exact hP, hD⟩, hS.F ht⟩) hS.2.2 hd B.2.2.2.2.1
end RH
end
section
/-! calls -/
theorem Wl_blind {X : Cx} {r : Nat} {w : Wd} {av : List Value} : FrameBlind (va_Pc av (Wl X r w)) := fun a U g mk q => by
  obtain ⟨q0, qP, qD, qK, qN, qX⟩ := q
  exact ⟨q0, qP, qD, va_K.moved (u := U) (U := U.calling g mk a) (Vm.Alike.refl U.vm) qK, Ns.same (u := U) (U := U.calling g mk a) rfl qN, qX.go (Vm.Alike.refl U.vm) (fun _ _ _ => rfl)⟩
theorem Wl_at {X : Cx} {r : Nat} {w : Wd} {s U : State} {H : Heap} {locs : List Loc} (hP : va_P X.2.1 vwCl (wld X r w) H) (hD : va_D (Ar X r) (wld X r w)) (hS : va_S (Ar X r) s.heap H locs) (hK : va_K X.2.1 vwCl (tysX X) s) (hN : Ns s) (hX : Sx X r s s.heap) (hU : U.heap = H) (hW : s.WarmedH U.vm) : Wl X r w U :=
  ⟨by rw [hU]; exact hP, hD, va_K.moved hW.alike hK, hN.warm hW, hX.go hW.alike (fun a h1 h2 => by rw [hU]; exact hS.2.1 a h1 h2)⟩
theorem Wq_run {X : Cx} {r : Nat} {p : Program} {e : Env} {R : Room} {s : State} {m : MethodId} {args : Array Value} {below : List Frame} {meth : Method} {c : Code} {H : Heap} {locs : List Loc} {Q : State → Prop} {Q1 : Option AV → Wd → Prop} {pc : Nat} {ls : Array Slot} {st0 rest : List Value} {a : Array Value}
    (hr : va_Run p X.1 e R s m args below meth c H locs 0 0 0 0 (F0 m pc ls st0) rest (Qres X r Q1 a) (Ar X r)) (hS : va_S (Ar X r) s.heap H locs)
    (kk : ∀ (rv : Option AV) (w' : Wd) (H1 : Heap) (locs1 : List Loc), Q1 rv w' → okl r rv.toList → va_P X.2.1 vwCl (wld X r w') H1 → va_D (Ar X r) (wld X r w') → va_S (Ar X r) s.heap H1 locs1 → W p X.1 e R s m args below meth c H1 locs1 0 0 Q (F0 m (pc + 3) ls ((rv.map (con X)).toList ++ rest))) : W p X.1 e R s m args below meth c H locs 0 0 Q (F0 m pc ls st0) := by
  intro T hT Y
  obtain ⟨v, st₀, t, T', L, h0, Y', hL, e1, e2, ⟨⟨rv, w', hv, hq, hok, hP1, hD1⟩, hz, hk⟩, st⟩ := hr T hT Y
  cases hv
  rw [h0] at hz hk
  obtain ⟨t2, a1, b1⟩ := kk rv w' T'.heap (locs ++ L) hq hok (by rw [e1]; exact hP1) hD1
    ⟨Nat.le_trans hS.1 (by rw [e1]; exact hz), fun q h1 h2 => by rw [e1, hk q (Nat.lt_of_lt_of_le h1 hS.1) h2]; exact hS.2.1 q h1 h2, fun q hq => by
      rcases List.mem_append.mp hq with h | h
      · exact hS.2.2 q h
      · exact hL q h⟩ T' rfl Y'
  exact ⟨t2, st t2 a1, b1⟩
def mokV (M : Mth) (n a : Nat) : Prop := Cond.instanceMethod M.1 ∈ tbG ∧ Cond.selects M.1.cls M.1 M.1 ∈ tbG ∧ Cond.initialized M.1.cls ∈ tbG ∧ Cond.code M.1 M.2.1 M.2.2.1 M.2.2.2.1 ∈ tbG ∧ (M.1.cls ≠ "java/lang/invoke/MethodHandle" ∧ M.1.cls ≠ "java/lang/invoke/VarHandle" ∧ (parseMethodDescriptor M.1.desc).map (fun d => d.parameters.length) = some n) ∧ M.2.2.1 ≤ 21 ∧ a < 9 ∧ ∃ T N, vwCl[a]? = some (M.1.cls, T, N)
def mokS (M : Mth) (n : Nat) : Prop := Cond.static M.1 ∈ tbG ∧ Cond.initialized M.1.cls ∈ tbG ∧ Cond.code M.1 M.2.1 M.2.2.1 M.2.2.2.1 ∈ tbG ∧ (M.1.cls ≠ "java/lang/invoke/MethodHandle" ∧ M.1.cls ≠ "java/lang/invoke/VarHandle" ∧ (parseMethodDescriptor M.1.desc).map (fun d => d.parameters.length) = some n) ∧ M.2.2.1 ≤ 21
def ML (own : String) (i : Nat) (y : MethodName) : Prop := Cond.methodLink own i y ∈ tbG ∨ ∃ h, Cond.methodLinkNest own i y h ∈ tbN
theorem mW_good {M : Mth} (h : Cond.code M.1 M.2.1 M.2.2.1 M.2.2.2.1 ∈ tbG) : GoodIn tbG (mW M) := fun w hw => by
  rcases List.mem_cons.mp hw with rfl | hw
  · exact ⟨h, Or.inl rfl⟩
  · exact tbG_good w hw
section RC
variable {X : Cx} {r d : Nat} {M : Mth} {pc q : Nat} {loc : Lo} {stk : List AV} {w : Wd} {Q : Option AV → Wd → Prop}
theorem R_callV {M' : Mth} {As : List AV} {a n i : Nat} {pa : List Nat} {Q1 : Option AV → Wd → Prop} (hd : decode M.2.1 pc = .ok (.invokevirtual i, 3)) (hl0 : ML M.2.2.2.2 i M'.1) (hm : mokV M' As.length a) (hc : (stk.map cat).sum ≤ 8) (hq : pc + 3 = q) (hC : Ct X r d M' (vR a n pa :: As) w Q1) (kk : ∀ rv w', Q1 rv w' → Wq X r (d + 1) M q loc (rv.toList ++ stk) w' Q) : Wq X r (d + 1) M pc loc (As.reverse ++ vR a n pa :: stk) w Q := by
  subst hq
  intro h1 h2 p e s m args below meth c H locs ls B hP hD hS hl
  obtain ⟨hm1, hm2, hm3, hm4, hm5, hm6, hm7, T, N, hm8⟩ := hm
  have hst : (As.reverse ++ vR a n pa :: stk).map (con X) = (As.map (con X)).reverse ++ .ref (adr X a pa) :: stk.map (con X) := by
    rw [List.map_append, List.map_reverse]
    rfl
  have hthis : okv r (vR a n pa) := h2 _ (List.mem_append_right _ List.mem_cons_self)
  have hok : okl r (vR a n pa :: As) := okl.cons hthis (fun v hv => h2 v (List.mem_append_left _ (List.mem_reverse.mpr hv)))
  have hoks : okl r stk := fun v hv => h2 v (List.mem_append_right _ (List.mem_cons_of_mem _ hv))
  obtain ⟨j, -, hj⟩ := wld_at (X := X) (w := w) (okv_obj (by omega) hthis)
  rw [cellE_obj hm7] at hj
  rw [hst]
  have hts := B.2.2.2.2.2.2.1
  have hR : (rmD d).frames + 1 ≤ (rmD (d + 1)).frames ∧ 8 + (M'.2.2.1 + 11) + (rmD d).locals ≤ (rmD (d + 1)).locals := ⟨Nat.le_refl _, by show 8 + (M'.2.2.1 + 11) + 40 * d ≤ 40 * (d + 1); omega⟩
  have hp : PreV s H M'.1.cls (adr X a pa) (va_Pc ((vR a n pa :: As).map (con X)) (Wl X r w)) (As.map (con X)) :=
    ⟨Wl_blind, va_recv B.2.2.2.2.2.2.2.1 hP (ci := a) (q0 := j) hm8 hj, fun U hU hW => ⟨rfl, Wl_at hP hD hS B.2.2.2.2.2.2.2.1 B.2.2.2.2.2.2.2.2.1 B.2.2.2.2.2.2.2.2.2 hU hW⟩⟩
  have hrest : 2 * (F0 m pc ls ((As.map (con X)).reverse ++ .ref (adr X a pa) :: stk.map (con X))).monitorRoom + ((stk.map (con X)).map fun v => v.category).sum ≤ 8 := lv_room (by rw [con_sum]; exact hc)
  refine Wq_run (Q1 := Q1) (rest := stk.map (con X)) (a := (Value.ref (adr X a pa) :: As.map (con X)).toArray) ?_ hS (fun rv w' H1 locs1 hq1 hok1 hP1 hD1 hS1 => ?_)
  · rcases hl0 with hl0 | ⟨hh, hl0⟩
    · exact va_runV (cc := M.2.1) (nL := M.2.2.1) (Ts := tbG) (own := M.2.2.2.2) ⟨B.1, B.2.1, B.2.2.1, B.2.2.2.2.2.1, hts⟩ (hC hok) ⟨callB_of As.length hts (mW_good hm4) rfl rfl rfl (hts _ hm3) (hts _ hl0) hm5 hR, hts _ hm1, hts _ hm2⟩ hp rfl (List.length_map ..) hl.1 rfl hrest hd ⟨Nat.le_refl _, Nat.le_refl _⟩
    · exact va_runVN (cc := M.2.1) (nL := M.2.2.1) (Ts := tbG) (own := M.2.2.2.2) ⟨B.1, B.2.1, B.2.2.1, B.2.2.2.2.2.1, hts⟩ (hC hok) ⟨va_cnB As.length hts (mW_good hm4) rfl rfl rfl (B.2.2.2.2.2.2.2.2.1 _ hl0) (hts _ hm3) hm5 hR, hts _ hm1, hts _ hm2⟩ hp rfl (List.length_map ..) hl.1 rfl hrest hd ⟨Nat.le_refl _, Nat.le_refl _⟩
  · have h9 := kk rv w' hq1 h1 (fun v hv => (List.mem_append.mp hv).elim (hok1 v) (hoks v)) p e s m args below meth c H1 locs1 ls B hP1 hD1 hS1 hl
    have h8 : (rv.toList ++ stk).map (con X) = (rv.map (con X)).toList ++ stk.map (con X) := by
      rw [List.map_append]
      cases rv <;> rfl
    rw [h8] at h9
    exact h9
theorem R_callS {M' : Mth} {As : List AV} {i : Nat} {Q1 : Option AV → Wd → Prop} (hd : decode M.2.1 pc = .ok (.invokestatic i, 3)) (hl0 : ML M.2.2.2.2 i M'.1) (hm : mokS M' As.length) (hc : (stk.map cat).sum ≤ 8) (hq : pc + 3 = q) (hC : Ct X r d M' As w Q1) (kk : ∀ rv w', Q1 rv w' → Wq X r (d + 1) M q loc (rv.toList ++ stk) w' Q) : Wq X r (d + 1) M pc loc (As.reverse ++ stk) w Q := by
  subst hq
  intro h1 h2 p e s m args below meth c H locs ls B hP hD hS hl
  obtain ⟨hm1, hm3, hm4, hm5, hm6⟩ := hm
  have hst : (As.reverse ++ stk).map (con X) = (As.map (con X)).reverse ++ stk.map (con X) := by
    rw [List.map_append, List.map_reverse]
  have hok : okl r As := fun v hv => h2 v (List.mem_append_left _ (List.mem_reverse.mpr hv))
  have hoks : okl r stk := fun v hv => h2 v (List.mem_append_right _ hv)
  rw [hst]
  have hts := B.2.2.2.2.2.2.1
  have hR : (rmD d).frames + 1 ≤ (rmD (d + 1)).frames ∧ 8 + (M'.2.2.1 + 11) + (rmD d).locals ≤ (rmD (d + 1)).locals := ⟨Nat.le_refl _, by show 8 + (M'.2.2.1 + 11) + 40 * d ≤ 40 * (d + 1); omega⟩
  have hp : PreS s H (va_Pc (As.map (con X)) (Wl X r w)) (As.map (con X)) :=
    ⟨Wl_blind, fun U hU hW => ⟨rfl, Wl_at hP hD hS B.2.2.2.2.2.2.2.1 B.2.2.2.2.2.2.2.2.1 B.2.2.2.2.2.2.2.2.2 hU hW⟩⟩
  have hrest : 2 * (F0 m pc ls ((As.map (con X)).reverse ++ stk.map (con X))).monitorRoom + ((stk.map (con X)).map fun v => v.category).sum ≤ 8 := lv_room (by rw [con_sum]; exact hc)
  refine Wq_run (Q1 := Q1) (rest := stk.map (con X)) (a := (As.map (con X)).toArray) ?_ hS (fun rv w' H1 locs1 hq1 hok1 hP1 hD1 hS1 => ?_)
  · rcases hl0 with hl0 | ⟨hh, hl0⟩
    · exact va_runS (cc := M.2.1) (nL := M.2.2.1) (Ts := tbG) (own := M.2.2.2.2) ⟨B.1, B.2.1, B.2.2.1, B.2.2.2.2.2.1, hts⟩ (hC hok) ⟨callB_of As.length hts (mW_good hm4) rfl rfl rfl (hts _ hm3) (hts _ hl0) hm5 hR, hts _ hm1⟩ hp rfl (List.length_map ..) hl.1 rfl hrest hd ⟨Nat.le_refl _, Nat.le_refl _⟩
    · exact va_runSN (cc := M.2.1) (nL := M.2.2.1) (Ts := tbG) (own := M.2.2.2.2) ⟨B.1, B.2.1, B.2.2.1, B.2.2.2.2.2.1, hts⟩ (hC hok) ⟨va_cnB As.length hts (mW_good hm4) rfl rfl rfl (B.2.2.2.2.2.2.2.2.1 _ hl0) (hts _ hm3) hm5 hR, hts _ hm1, trivial⟩ hp rfl (List.length_map ..) hl.1 rfl hrest hd ⟨Nat.le_refl _, Nat.le_refl _⟩
  · have h9 := kk rv w' hq1 h1 (fun v hv => (List.mem_append.mp hv).elim (hok1 v) (hoks v)) p e s m args below meth c H1 locs1 ls B hP1 hD1 hS1 hl
    have h8 : (rv.toList ++ stk).map (con X) = (rv.map (con X)).toList ++ stk.map (con X) := by
      rw [List.map_append]
      cases rv <;> rfl
    rw [h8] at h9
    exact h9
/-- what a method answers: an int and a world; a long; nothing -/
def qI (P : Int32 → Wd → Prop) : Option AV → Wd → Prop := fun rv w => ∃ x, rv = some (vI x) ∧ P x w
def qL (P : Int64 → Wd → Prop) : Option AV → Wd → Prop := fun rv w => ∃ x, rv = some (vL x) ∧ P x w
def qV (P : Wd → Prop) : Option AV → Wd → Prop := fun rv w => rv = none ∧ P w
theorem Ct.mono {X : Cx} {r d : Nat} {M : Mth} {as : List AV} {w : Wd} {Q Q' : Option AV → Wd → Prop} (hy : plainName M.1.cls = true) (ho : M.1.cls = M.2.2.2.2) (h : Ct X r d M as w Q) (hq : ∀ rv w', Q rv w' → Q' rv w') : Ct X r d M as w Q' := by
  intro hok
  have h1 := h hok
  unfold Met at h1 ⊢
  intro p e ha hc hk s m args below hf happ hP hT
  obtain ⟨k, o, a1, a2, a3, ⟨⟨⟨rv, w', b1, b2, b3⟩, hF⟩, hL⟩⟩ := h1 p e ha hc hk s m args below hf happ hP hT
  exact ⟨k, o, a1, a2, a3, ⟨⟨rv, w', b1, hq rv w' b2, b3⟩, hF⟩, hL⟩
end RC
end
section
theorem cls0 : clsOK 0 RX0 TX0 3 tyX0 := ⟨rfl, rfl, by decide, by decide +kernel, tyX0_ok, nmX0⟩
theorem cls1 : clsOK 1 RX1 TX1 4 tyX1 := ⟨rfl, rfl, by decide, by decide +kernel, tyX1_ok, nmX1⟩
theorem cls2 : clsOK 2 RX2 TX2 3 tyX2 := ⟨rfl, rfl, by decide, by decide +kernel, tyX2_ok, nmX2⟩
theorem cls3 : clsOK 3 RX3 TX3 3 tyX3 := ⟨rfl, rfl, by decide, by decide +kernel, tyX3_ok, nmX3⟩
theorem cls4 : clsOK 4 RX4 TX4 2 tyX4 := ⟨rfl, rfl, by decide, by decide +kernel, tyX4_ok, nmX4⟩
theorem cls5 : clsOK 5 RX5 TX5 8 tyX5 := ⟨rfl, rfl, by decide, by decide +kernel, tyX5_ok, nmX5⟩
theorem cls6 : clsOK 6 RX6 TX6 2 tyX6 := ⟨rfl, rfl, by decide, by decide +kernel, tyX6_ok, nmX6⟩
theorem cls7 : clsOK 7 RX7 TX7 10 tyX7 := ⟨rfl, rfl, by decide, by decide +kernel, tyX7_ok, nmX7⟩
theorem cls8 : clsOK 8 RX8 TX8 25 tyX8 := ⟨rfl, rfl, by decide, by decide +kernel, tyX8_ok, nmX8⟩
theorem ml_L_9 : ML RL 9 yX7_init := Or.inl (tg 16 (by decide +kernel) rfl)
theorem ml_X7_11 : ML RX7 11 yX6_init := Or.inr ⟨"TwoHalves", tn 24 (by decide +kernel) rfl⟩
theorem fl_X6_9 : FL RX6 9 6 0 true (.array .int) := ⟨_, _, _, _, cls6, by decide, rfl, rfl, rfl, Or.inl (tg 28 (by decide +kernel) rfl)⟩
theorem fl_X6_15 : FL RX6 15 6 1 false .int := ⟨_, _, _, _, cls6, by decide, rfl, rfl, rfl, Or.inl (tg 29 (by decide +kernel) rfl)⟩
theorem fl_X7_69 : FL RX7 69 6 1 false .int := ⟨_, _, _, _, cls6, by decide, rfl, rfl, rfl, Or.inr ⟨"TwoHalves", tn 30 (by decide +kernel) rfl⟩⟩
theorem ml_X7_18 : ML RX7 18 yX5_init := Or.inr ⟨"TwoHalves", tn 39 (by decide +kernel) rfl⟩
theorem fl_X5_9 : FL RX5 9 5 0 false .int := ⟨_, _, _, _, cls5, by decide, rfl, rfl, rfl, Or.inl (tg 43 (by decide +kernel) rfl)⟩
theorem fl_X7_88 : FL RX7 88 5 0 false .int := ⟨_, _, _, _, cls5, by decide, rfl, rfl, rfl, Or.inr ⟨"TwoHalves", tn 44 (by decide +kernel) rfl⟩⟩
theorem fl_X5_15 : FL RX5 15 5 1 false .int := ⟨_, _, _, _, cls5, by decide, rfl, rfl, rfl, Or.inl (tg 45 (by decide +kernel) rfl)⟩
theorem fl_X7_91 : FL RX7 91 5 1 false .int := ⟨_, _, _, _, cls5, by decide, rfl, rfl, rfl, Or.inr ⟨"TwoHalves", tn 46 (by decide +kernel) rfl⟩⟩
theorem fl_X5_31 : FL RX5 31 5 2 false .int := ⟨_, _, _, _, cls5, by decide, rfl, rfl, rfl, Or.inl (tg 47 (by decide +kernel) rfl)⟩
theorem fl_X1_30 : FL RX1 30 5 2 false .int := ⟨_, _, _, _, cls5, by decide, rfl, rfl, rfl, Or.inr ⟨"TwoHalves", tn 48 (by decide +kernel) rfl⟩⟩
theorem fl_X7_85 : FL RX7 85 5 2 false .int := ⟨_, _, _, _, cls5, by decide, rfl, rfl, rfl, Or.inr ⟨"TwoHalves", tn 49 (by decide +kernel) rfl⟩⟩
theorem fl_X5_18 : FL RX5 18 5 3 false .int := ⟨_, _, _, _, cls5, by decide, rfl, rfl, rfl, Or.inl (tg 50 (by decide +kernel) rfl)⟩
theorem fl_X7_94 : FL RX7 94 5 3 false .int := ⟨_, _, _, _, cls5, by decide, rfl, rfl, rfl, Or.inr ⟨"TwoHalves", tn 51 (by decide +kernel) rfl⟩⟩
theorem fl_X5_34 : FL RX5 34 5 4 false .int := ⟨_, _, _, _, cls5, by decide, rfl, rfl, rfl, Or.inl (tg 52 (by decide +kernel) rfl)⟩
theorem fl_X7_97 : FL RX7 97 5 4 false .int := ⟨_, _, _, _, cls5, by decide, rfl, rfl, rfl, Or.inr ⟨"TwoHalves", tn 53 (by decide +kernel) rfl⟩⟩
theorem fl_X5_21 : FL RX5 21 5 5 true (.array .int) := ⟨_, _, _, _, cls5, by decide, rfl, rfl, rfl, Or.inl (tg 54 (by decide +kernel) rfl)⟩
theorem fl_X1_36 : FL RX1 36 5 5 true (.array .int) := ⟨_, _, _, _, cls5, by decide, rfl, rfl, rfl, Or.inr ⟨"TwoHalves", tn 55 (by decide +kernel) rfl⟩⟩
theorem fl_X2_60 : FL RX2 60 5 5 true (.array .int) := ⟨_, _, _, _, cls5, by decide, rfl, rfl, rfl, Or.inr ⟨"TwoHalves", tn 56 (by decide +kernel) rfl⟩⟩
theorem fl_X7_128 : FL RX7 128 5 5 true (.array .int) := ⟨_, _, _, _, cls5, by decide, rfl, rfl, rfl, Or.inr ⟨"TwoHalves", tn 57 (by decide +kernel) rfl⟩⟩
theorem fl_X5_25 : FL RX5 25 5 6 true (.array .int) := ⟨_, _, _, _, cls5, by decide, rfl, rfl, rfl, Or.inl (tg 58 (by decide +kernel) rfl)⟩
theorem fl_X1_43 : FL RX1 43 5 6 true (.array .int) := ⟨_, _, _, _, cls5, by decide, rfl, rfl, rfl, Or.inr ⟨"TwoHalves", tn 59 (by decide +kernel) rfl⟩⟩
theorem fl_X2_67 : FL RX2 67 5 6 true (.array .int) := ⟨_, _, _, _, cls5, by decide, rfl, rfl, rfl, Or.inr ⟨"TwoHalves", tn 60 (by decide +kernel) rfl⟩⟩
theorem fl_X7_131 : FL RX7 131 5 6 true (.array .int) := ⟨_, _, _, _, cls5, by decide, rfl, rfl, rfl, Or.inr ⟨"TwoHalves", tn 61 (by decide +kernel) rfl⟩⟩
theorem fl_X5_28 : FL RX5 28 5 7 true (.array .int) := ⟨_, _, _, _, cls5, by decide, rfl, rfl, rfl, Or.inl (tg 62 (by decide +kernel) rfl)⟩
theorem fl_X2_26 : FL RX2 26 5 7 true (.array .int) := ⟨_, _, _, _, cls5, by decide, rfl, rfl, rfl, Or.inr ⟨"TwoHalves", tn 63 (by decide +kernel) rfl⟩⟩
theorem fl_X7_157 : FL RX7 157 5 7 true (.array .int) := ⟨_, _, _, _, cls5, by decide, rfl, rfl, rfl, Or.inr ⟨"TwoHalves", tn 64 (by decide +kernel) rfl⟩⟩
theorem ml_X7_28 : ML RX7 28 yX0_init := Or.inr ⟨"TwoHalves", tn 84 (by decide +kernel) rfl⟩
theorem ml_X0_17 : ML RX0 17 yX5_init := Or.inr ⟨"TwoHalves", tn 90 (by decide +kernel) rfl⟩
theorem fl_X0_11 : FL RX0 11 0 0 true (.array (.object "TwoHalves$State")) := ⟨_, _, _, _, cls0, by decide, rfl, rfl, rfl, Or.inl (tg 91 (by decide +kernel) rfl)⟩
theorem fl_X0_22 : FL RX0 22 0 1 false .int := ⟨_, _, _, _, cls0, by decide, rfl, rfl, rfl, Or.inl (tg 92 (by decide +kernel) rfl)⟩
theorem fl_X0_18 : FL RX0 18 0 2 false .int := ⟨_, _, _, _, cls0, by decide, rfl, rfl, rfl, Or.inl (tg 93 (by decide +kernel) rfl)⟩
theorem fl_X7_121 : FL RX7 121 0 2 false .int := ⟨_, _, _, _, cls0, by decide, rfl, rfl, rfl, Or.inr ⟨"TwoHalves", tn 94 (by decide +kernel) rfl⟩⟩
theorem ml_X7_35 : ML RX7 35 yX4_init := Or.inr ⟨"TwoHalves", tn 104 (by decide +kernel) rfl⟩
theorem ml_X4_17 : ML RX4 17 yX5_init := Or.inr ⟨"TwoHalves", tn 109 (by decide +kernel) rfl⟩
theorem fl_X4_11 : FL RX4 11 4 0 true (.array (.object "TwoHalves$State")) := ⟨_, _, _, _, cls4, by decide, rfl, rfl, rfl, Or.inl (tg 110 (by decide +kernel) rfl)⟩
theorem fl_X4_22 : FL RX4 22 4 1 false .int := ⟨_, _, _, _, cls4, by decide, rfl, rfl, rfl, Or.inl (tg 111 (by decide +kernel) rfl)⟩
theorem ml_X7_42 : ML RX7 42 yX3_init := Or.inr ⟨"TwoHalves", tn 119 (by decide +kernel) rfl⟩
theorem fl_X3_9 : FL RX3 9 3 0 true (.array .int) := ⟨_, _, _, _, cls3, by decide, rfl, rfl, rfl, Or.inl (tg 123 (by decide +kernel) rfl)⟩
theorem fl_X3_15 : FL RX3 15 3 1 true (.array .int) := ⟨_, _, _, _, cls3, by decide, rfl, rfl, rfl, Or.inl (tg 124 (by decide +kernel) rfl)⟩
theorem fl_X3_18 : FL RX3 18 3 2 false .int := ⟨_, _, _, _, cls3, by decide, rfl, rfl, rfl, Or.inl (tg 125 (by decide +kernel) rfl)⟩
theorem fl_X7_124 : FL RX7 124 3 2 false .int := ⟨_, _, _, _, cls3, by decide, rfl, rfl, rfl, Or.inr ⟨"TwoHalves", tn 126 (by decide +kernel) rfl⟩⟩
theorem ml_X7_49 : ML RX7 49 yX1_init := Or.inr ⟨"TwoHalves", tn 136 (by decide +kernel) rfl⟩
theorem fl_X1_9 : FL RX1 9 1 0 true (.array .int) := ⟨_, _, _, _, cls1, by decide, rfl, rfl, rfl, Or.inl (tg 140 (by decide +kernel) rfl)⟩
theorem fl_X1_15 : FL RX1 15 1 1 true (.array .int) := ⟨_, _, _, _, cls1, by decide, rfl, rfl, rfl, Or.inl (tg 141 (by decide +kernel) rfl)⟩
theorem fl_X1_18 : FL RX1 18 1 2 true (.array .int) := ⟨_, _, _, _, cls1, by decide, rfl, rfl, rfl, Or.inl (tg 142 (by decide +kernel) rfl)⟩
theorem fl_X1_21 : FL RX1 21 1 3 true (.array .int) := ⟨_, _, _, _, cls1, by decide, rfl, rfl, rfl, Or.inl (tg 143 (by decide +kernel) rfl)⟩
theorem ml_X7_56 : ML RX7 56 yX2_init := Or.inr ⟨"TwoHalves", tn 155 (by decide +kernel) rfl⟩
theorem ml_X2_11 : ML RX2 11 yX1_init := Or.inr ⟨"TwoHalves", tn 160 (by decide +kernel) rfl⟩
theorem fl_X2_12 : FL RX2 12 2 0 true (.object "TwoHalves$Guesses") := ⟨_, _, _, _, cls2, by decide, rfl, rfl, rfl, Or.inl (tg 161 (by decide +kernel) rfl)⟩
theorem fl_X2_18 : FL RX2 18 2 1 true (.array .int) := ⟨_, _, _, _, cls2, by decide, rfl, rfl, rfl, Or.inl (tg 162 (by decide +kernel) rfl)⟩
theorem fl_X3_22 : FL RX3 22 2 1 true (.array .int) := ⟨_, _, _, _, cls2, by decide, rfl, rfl, rfl, Or.inr ⟨"TwoHalves", tn 163 (by decide +kernel) rfl⟩⟩
theorem fl_X7_164 : FL RX7 164 2 1 true (.array .int) := ⟨_, _, _, _, cls2, by decide, rfl, rfl, rfl, Or.inr ⟨"TwoHalves", tn 164 (by decide +kernel) rfl⟩⟩
theorem fl_X2_37 : FL RX2 37 2 2 false .int := ⟨_, _, _, _, cls2, by decide, rfl, rfl, rfl, Or.inl (tg 165 (by decide +kernel) rfl)⟩
theorem fl_X7_257 : FL RX7 257 2 2 false .int := ⟨_, _, _, _, cls2, by decide, rfl, rfl, rfl, Or.inr ⟨"TwoHalves", tn 166 (by decide +kernel) rfl⟩⟩
theorem fl_X7_12 : FL RX7 12 7 0 true (.object "TwoHalves$Text") := ⟨_, _, _, _, cls7, by decide, rfl, rfl, rfl, Or.inl (tg 174 (by decide +kernel) rfl)⟩
theorem fl_X7_19 : FL RX7 19 7 1 true (.object "TwoHalves$State") := ⟨_, _, _, _, cls7, by decide, rfl, rfl, rfl, Or.inl (tg 175 (by decide +kernel) rfl)⟩
theorem fl_X7_23 : FL RX7 23 7 2 true (.object "TwoHalves$State") := ⟨_, _, _, _, cls7, by decide, rfl, rfl, rfl, Or.inl (tg 176 (by decide +kernel) rfl)⟩
theorem fl_X7_29 : FL RX7 29 7 3 true (.object "TwoHalves$Acts") := ⟨_, _, _, _, cls7, by decide, rfl, rfl, rfl, Or.inl (tg 177 (by decide +kernel) rfl)⟩
theorem fl_X7_36 : FL RX7 36 7 4 true (.object "TwoHalves$Slots") := ⟨_, _, _, _, cls7, by decide, rfl, rfl, rfl, Or.inl (tg 178 (by decide +kernel) rfl)⟩
theorem fl_X7_43 : FL RX7 43 7 5 true (.object "TwoHalves$Seen") := ⟨_, _, _, _, cls7, by decide, rfl, rfl, rfl, Or.inl (tg 179 (by decide +kernel) rfl)⟩
theorem fl_X7_50 : FL RX7 50 7 6 true (.object "TwoHalves$Guesses") := ⟨_, _, _, _, cls7, by decide, rfl, rfl, rfl, Or.inl (tg 180 (by decide +kernel) rfl)⟩
theorem fl_X7_57 : FL RX7 57 7 7 true (.object "TwoHalves$Outcome") := ⟨_, _, _, _, cls7, by decide, rfl, rfl, rfl, Or.inl (tg 181 (by decide +kernel) rfl)⟩
theorem fl_X7_61 : FL RX7 61 7 8 true (.array .int) := ⟨_, _, _, _, cls7, by decide, rfl, rfl, rfl, Or.inl (tg 182 (by decide +kernel) rfl)⟩
theorem fl_X7_236 : FL RX7 236 7 9 false .long := ⟨_, _, _, _, cls7, by decide, rfl, rfl, rfl, Or.inl (tg 183 (by decide +kernel) rfl)⟩
theorem ml_L_13 : ML RL 13 yX7_write := Or.inl (tg 205 (by decide +kernel) rfl)
theorem ml_X7_65 : ML RX7 65 yX6_add := Or.inr ⟨"TwoHalves", tn 209 (by decide +kernel) rfl⟩
theorem ml_L_18 : ML RL 18 yX7_wipe := Or.inl (tg 213 (by decide +kernel) rfl)
theorem ml_L_23 : ML RL 23 yX7_fault := Or.inl (tg 217 (by decide +kernel) rfl)
theorem ml_X7_73 : ML RX7 73 yX6_readInto := Or.inr ⟨"TwoHalves", tn 221 (by decide +kernel) rfl⟩
theorem ml_X6_19 : ML RX6 19 yX5_renew := Or.inr ⟨"TwoHalves", tn 225 (by decide +kernel) rfl⟩
theorem ml_X5_37 : ML RX5 37 yJ7_fill_53178 := Or.inl (tg 229 (by decide +kernel) rfl)
theorem ml_X6_24 : ML RX6 24 yX6_takes := Or.inl (tg 232 (by decide +kernel) rfl)
theorem ml_X6_28 : ML RX6 28 yX5_tellRows := Or.inr ⟨"TwoHalves", tn 235 (by decide +kernel) rfl⟩
theorem ml_X6_32 : ML RX6 32 yX5_tellColumns := Or.inr ⟨"TwoHalves", tn 239 (by decide +kernel) rfl⟩
theorem ml_X6_35 : ML RX6 35 yX5_hasRoom := Or.inr ⟨"TwoHalves", tn 243 (by decide +kernel) rfl⟩
theorem ml_X6_39 : ML RX6 39 yX5_tellRow := Or.inr ⟨"TwoHalves", tn 247 (by decide +kernel) rfl⟩
theorem ml_X5_49 : ML RX5 49 yX5_hasRoom := Or.inl (tg 251 (by decide +kernel) rfl)
theorem ml_X5_53 : ML RX5 53 yX5_shadesInRow := Or.inl (tg 252 (by decide +kernel) rfl)
theorem ml_X6_42 : ML RX6 42 yX5_tellColumn := Or.inr ⟨"TwoHalves", tn 256 (by decide +kernel) rfl⟩
theorem ml_X5_57 : ML RX5 57 yX5_shadeIn := Or.inl (tg 260 (by decide +kernel) rfl)
theorem ml_L_27 : ML RL 27 yX7_map := Or.inl (tg 264 (by decide +kernel) rfl)
theorem ml_X7_77 : ML RX7 77 yX5_copy := Or.inr ⟨"TwoHalves", tn 268 (by decide +kernel) rfl⟩
theorem ac_X5_43 : Cond.methodLink RX5 43 arraycopyName ∈ tbG := tg 272 (by decide +kernel) rfl
theorem ml_X7_81 : ML RX7 81 yX0_forgetAll := Or.inr ⟨"TwoHalves", tn 275 (by decide +kernel) rfl⟩
theorem ml_X7_84 : ML RX7 84 yX4_forgetAll := Or.inr ⟨"TwoHalves", tn 279 (by decide +kernel) rfl⟩
theorem ml_L_31 : ML RL 31 yX7_about := Or.inl (tg 283 (by decide +kernel) rfl)
theorem ml_X7_100 : ML RX7 100 yX7_blankNow := Or.inl (tg 287 (by decide +kernel) rfl)
theorem ml_X7_160 : ML RX7 160 yX2_send := Or.inr ⟨"TwoHalves", tn 291 (by decide +kernel) rfl⟩
theorem ml_X2_33 : ML RX2 33 yX1_take := Or.inr ⟨"TwoHalves", tn 295 (by decide +kernel) rfl⟩
theorem ml_X1_24 : ML RX1 24 yJ7_fill_53178 := Or.inl (tg 299 (by decide +kernel) rfl)
theorem ml_X1_39 : ML RX1 39 yX1_count := Or.inl (tg 300 (by decide +kernel) rfl)
theorem ml_X1_46 : ML RX1 46 yX1_nearest := Or.inl (tg 304 (by decide +kernel) rfl)
theorem ml_X1_50 : ML RX1 50 yX1_takeSides := Or.inl (tg 307 (by decide +kernel) rfl)
theorem ml_X1_54 : ML RX1 54 yX7_square := Or.inr ⟨"TwoHalves", tn 311 (by decide +kernel) rfl⟩
theorem ml_X2_41 : ML RX2 41 yX2_came := Or.inl (tg 314 (by decide +kernel) rfl)
theorem ml_X2_45 : ML RX2 45 yX2_fill := Or.inl (tg 317 (by decide +kernel) rfl)
theorem ml_X2_57 : ML RX2 57 yX5_hasShade := Or.inr ⟨"TwoHalves", tn 321 (by decide +kernel) rfl⟩
theorem ml_X2_63 : ML RX2 63 yX1_of := Or.inr ⟨"TwoHalves", tn 325 (by decide +kernel) rfl⟩
theorem ml_X2_49 : ML RX2 49 yX2_isBlank := Or.inl (tg 329 (by decide +kernel) rfl)
theorem ml_X2_53 : ML RX2 53 yX2_fillBlank := Or.inl (tg 333 (by decide +kernel) rfl)
theorem ml_X2_70 : ML RX2 70 yX2_between := Or.inl (tg 337 (by decide +kernel) rfl)
theorem ml_X7_104 : ML RX7 104 yX2_missBy := Or.inr ⟨"TwoHalves", tn 341 (by decide +kernel) rfl⟩
theorem ml_X2_22 : ML RX2 22 yX2_send := Or.inl (tg 345 (by decide +kernel) rfl)
theorem ml_X2_29 : ML RX2 29 yX7_square := Or.inr ⟨"TwoHalves", tn 346 (by decide +kernel) rfl⟩
theorem ml_X7_108 : ML RX7 108 yX7_sideOf := Or.inl (tg 347 (by decide +kernel) rfl)
theorem ml_X7_148 : ML RX7 148 yX1_take := Or.inr ⟨"TwoHalves", tn 351 (by decide +kernel) rfl⟩
theorem ml_X7_260 : ML RX7 260 yX1_side := Or.inr ⟨"TwoHalves", tn 352 (by decide +kernel) rfl⟩
theorem ml_X7_112 : ML RX7 112 yX7_bestChange := Or.inl (tg 356 (by decide +kernel) rfl)
theorem ml_X7_172 : ML RX7 172 yX7_bothSides := Or.inl (tg 360 (by decide +kernel) rfl)
theorem ml_X7_168 : ML RX7 168 yX5_swap := Or.inr ⟨"TwoHalves", tn 364 (by decide +kernel) rfl⟩
theorem ml_X5_61 : ML RX5 61 yX5_hasShade := Or.inl (tg 368 (by decide +kernel) rfl)
theorem ml_X5_65 : ML RX5 65 yX5_put := Or.inl (tg 369 (by decide +kernel) rfl)
theorem ml_X7_115 : ML RX7 115 yX7_bestShift := Or.inl (tg 373 (by decide +kernel) rfl)
theorem ml_X7_263 : ML RX7 263 yX7_greatestMiss := Or.inl (tg 377 (by decide +kernel) rfl)
theorem ml_X7_266 : ML RX7 266 yJ9_max_7cf53 := Or.inl (tg 381 (by decide +kernel) rfl)
theorem ml_X7_118 : ML RX7 118 yX7_band := Or.inl (tg 384 (by decide +kernel) rfl)
theorem ml_X7_179 : ML RX7 179 yX5_cellsWithin := Or.inr ⟨"TwoHalves", tn 388 (by decide +kernel) rfl⟩
theorem ml_X5_69 : ML RX5 69 yJ9_abs_0f7a4 := Or.inl (tg 392 (by decide +kernel) rfl)
theorem ml_L_35 : ML RL 35 yX7_shade := Or.inl (tg 395 (by decide +kernel) rfl)
theorem ml_X7_125 : ML RX7 125 yX5_hasShade := Or.inr ⟨"TwoHalves", tn 399 (by decide +kernel) rfl⟩
theorem ml_X7_134 : ML RX7 134 yX5_timesPainted := Or.inr ⟨"TwoHalves", tn 400 (by decide +kernel) rfl⟩
theorem ml_L_40 : ML RL 40 yX7_cell := Or.inl (tg 404 (by decide +kernel) rfl)
theorem ml_X7_137 : ML RX7 137 yX5_hasCell := Or.inr ⟨"TwoHalves", tn 408 (by decide +kernel) rfl⟩
theorem ml_X7_141 : ML RX7 141 yX5_shadeIn := Or.inr ⟨"TwoHalves", tn 412 (by decide +kernel) rfl⟩
theorem ml_L_44 : ML RL 44 yX7_guess := Or.inl (tg 413 (by decide +kernel) rfl)
theorem ml_X7_145 : ML RX7 145 yX5_numbersOf := Or.inr ⟨"TwoHalves", tn 417 (by decide +kernel) rfl⟩
theorem ml_X7_151 : ML RX7 151 yX1_of := Or.inr ⟨"TwoHalves", tn 421 (by decide +kernel) rfl⟩
theorem ml_L_48 : ML RL 48 yX7_dot := Or.inl (tg 422 (by decide +kernel) rfl)
theorem ml_X7_154 : ML RX7 154 yX7_isDot := Or.inl (tg 426 (by decide +kernel) rfl)
theorem ml_L_53 : ML RL 53 yX7_change := Or.inl (tg 429 (by decide +kernel) rfl)
theorem ml_X7_165 : ML RX7 165 yX0_remember := Or.inr ⟨"TwoHalves", tn 433 (by decide +kernel) rfl⟩
theorem ml_X0_25 : ML RX0 25 yX5_copy := Or.inr ⟨"TwoHalves", tn 437 (by decide +kernel) rfl⟩
theorem ml_L_57 : ML RL 57 yX7_move := Or.inl (tg 438 (by decide +kernel) rfl)
theorem ml_X7_175 : ML RX7 175 yX5_put := Or.inr ⟨"TwoHalves", tn 442 (by decide +kernel) rfl⟩
theorem ml_L_62 : ML RL 62 yX7_lay := Or.inl (tg 443 (by decide +kernel) rfl)
theorem ml_X7_182 : ML RX7 182 yX5_layWithin := Or.inr ⟨"TwoHalves", tn 447 (by decide +kernel) rfl⟩
theorem ml_X5_74 : ML RX5 74 yX5_hasCell := Or.inl (tg 451 (by decide +kernel) rfl)
theorem ml_L_66 : ML RL 66 yX7_paint := Or.inl (tg 452 (by decide +kernel) rfl)
theorem ml_L_70 : ML RL 70 yX7_shift := Or.inl (tg 456 (by decide +kernel) rfl)
theorem ml_X7_186 : ML RX7 186 yX7_isShift := Or.inl (tg 460 (by decide +kernel) rfl)
theorem ml_L_74 : ML RL 74 yX7_lose := Or.inl (tg 463 (by decide +kernel) rfl)
theorem ml_X7_189 : ML RX7 189 yX7_isPack := Or.inl (tg 467 (by decide +kernel) rfl)
theorem ml_X7_192 : ML RX7 192 yX5_loseOrFind := Or.inr ⟨"TwoHalves", tn 470 (by decide +kernel) rfl⟩
theorem ml_L_78 : ML RL 78 yX7_undo := Or.inl (tg 474 (by decide +kernel) rfl)
theorem ml_X7_195 : ML RX7 195 yX0_takeBackInto := Or.inr ⟨"TwoHalves", tn 478 (by decide +kernel) rfl⟩
theorem ml_L_82 : ML RL 82 yX7_miss := Or.inl (tg 482 (by decide +kernel) rfl)
theorem ml_L_88 : ML RL 88 yX7_judge := Or.inl (tg 486 (by decide +kernel) rfl)
theorem lk_X7_199 : Cond.fieldLink RX7 199 "TwoHalves" "DOINGS_END" "[J" ∈ tbG := tg 490 (by decide +kernel) rfl
theorem kc_X7_203 : Cond.constantLong RX7 203 (1000) ∈ tbG := tg 492 (by decide +kernel) rfl
theorem ml_X7_205 : ML RX7 205 yX7_goesWell := Or.inl (tg 493 (by decide +kernel) rfl)
theorem ml_X7_271 : ML RX7 271 yX7_triedPack := Or.inl (tg 497 (by decide +kernel) rfl)
theorem ml_X7_274 : ML RX7 274 yX7_triedShift := Or.inl (tg 501 (by decide +kernel) rfl)
theorem ml_X7_277 : ML RX7 277 yX7_comesOutRight := Or.inl (tg 505 (by decide +kernel) rfl)
theorem ml_X7_280 : ML RX7 280 yX7_comesOutBlank := Or.inl (tg 509 (by decide +kernel) rfl)
theorem ml_X7_283 : ML RX7 283 yX7_triedChange := Or.inl (tg 513 (by decide +kernel) rfl)
theorem ml_L_93 : ML RL 93 yX7_see := Or.inl (tg 517 (by decide +kernel) rfl)
theorem ml_X7_209 : ML RX7 209 yX3_add := Or.inr ⟨"TwoHalves", tn 521 (by decide +kernel) rfl⟩
theorem ml_L_97 : ML RL 97 yX7_unsee := Or.inl (tg 525 (by decide +kernel) rfl)
theorem ml_L_101 : ML RL 101 yX7_which := Or.inl (tg 529 (by decide +kernel) rfl)
theorem ml_X7_211 : ML RX7 211 yX3_isSo := Or.inr ⟨"TwoHalves", tn 533 (by decide +kernel) rfl⟩
theorem ml_L_105 : ML RL 105 yX7_share := Or.inl (tg 537 (by decide +kernel) rfl)
theorem ml_X7_215 : ML RX7 215 yX7_tellMisses := Or.inl (tg 541 (by decide +kernel) rfl)
theorem lk_X7_218 : Cond.fieldLink RX7 218 "TwoHalves" "ORDERS_BY_LOST" "[I" ∈ tbG := tg 545 (by decide +kernel) rfl
theorem ml_X7_221 : ML RX7 221 yJ6_bitCount_0f7a4 := Or.inl (tg 547 (by decide +kernel) rfl)
theorem kc_J6_265 : Cond.constant RJ6 265 (1431655765) ∈ tbG := tg 550 (by decide +kernel) rfl
theorem kc_J6_266 : Cond.constant RJ6 266 (858993459) ∈ tbG := tg 551 (by decide +kernel) rfl
theorem kc_J6_267 : Cond.constant RJ6 267 (252645135) ∈ tbG := tg 552 (by decide +kernel) rfl
theorem ml_X7_226 : ML RX7 226 yX7_fraction := Or.inl (tg 553 (by decide +kernel) rfl)
theorem ml_X7_286 : ML RX7 286 yJ9_abs_0f7a4 := Or.inl (tg 556 (by decide +kernel) rfl)
theorem ml_X7_289 : ML RX7 289 yX7_commonDivisor := Or.inl (tg 557 (by decide +kernel) rfl)
theorem ml_L_110 : ML RL 110 yX7_chance := Or.inl (tg 560 (by decide +kernel) rfl)
theorem ml_X7_230 : ML RX7 230 yX7_isTenths := Or.inl (tg 564 (by decide +kernel) rfl)
theorem ml_X7_233 : ML RX7 233 yX7_likelihood := Or.inl (tg 567 (by decide +kernel) rfl)
theorem ml_L_114 : ML RL 114 yX7_mean := Or.inl (tg 570 (by decide +kernel) rfl)
theorem ml_L_118 : ML RL 118 yX7_seed := Or.inl (tg 574 (by decide +kernel) rfl)
theorem ml_L_123 : ML RL 123 yX7_drawn := Or.inl (tg 578 (by decide +kernel) rfl)
theorem kc_X7_240 : Cond.constantLong RX7 240 (6364136223846793005) ∈ tbG := tg 582 (by decide +kernel) rfl
theorem kc_X7_242 : Cond.constantLong RX7 242 (1442695040888963407) ∈ tbG := tg 583 (by decide +kernel) rfl
theorem ml_X7_244 : ML RX7 244 yX5_paintBy := Or.inr ⟨"TwoHalves", tn 584 (by decide +kernel) rfl⟩
theorem ml_L_127 : ML RL 127 yX7_keep := Or.inl (tg 588 (by decide +kernel) rfl)
theorem ml_X7_247 : ML RX7 247 yX7_isSlot := Or.inl (tg 592 (by decide +kernel) rfl)
theorem ml_X7_250 : ML RX7 250 yX4_put := Or.inr ⟨"TwoHalves", tn 595 (by decide +kernel) rfl⟩
theorem ml_X4_18 : ML RX4 18 yX5_copy := Or.inr ⟨"TwoHalves", tn 599 (by decide +kernel) rfl⟩
theorem ml_L_131 : ML RL 131 yX7_again := Or.inl (tg 600 (by decide +kernel) rfl)
theorem ml_X7_253 : ML RX7 253 yX4_takeInto := Or.inr ⟨"TwoHalves", tn 604 (by decide +kernel) rfl⟩
theorem ml_L_12 : ML RL 12 yX8_init := Or.inl (tg 610 (by decide +kernel) rfl)
theorem fl_X8_7 : FL RX8 7 8 0 true (.array .int) := ⟨_, _, _, _, cls8, by decide, rfl, rfl, rfl, Or.inl (tg 614 (by decide +kernel) rfl)⟩
theorem fl_X8_65 : FL RX8 65 8 1 false .int := ⟨_, _, _, _, cls8, by decide, rfl, rfl, rfl, Or.inl (tg 615 (by decide +kernel) rfl)⟩
theorem fl_X8_47 : FL RX8 47 8 2 false .int := ⟨_, _, _, _, cls8, by decide, rfl, rfl, rfl, Or.inl (tg 616 (by decide +kernel) rfl)⟩
theorem fl_X8_51 : FL RX8 51 8 3 false .int := ⟨_, _, _, _, cls8, by decide, rfl, rfl, rfl, Or.inl (tg 617 (by decide +kernel) rfl)⟩
theorem fl_X8_54 : FL RX8 54 8 4 false .int := ⟨_, _, _, _, cls8, by decide, rfl, rfl, rfl, Or.inl (tg 618 (by decide +kernel) rfl)⟩
theorem fl_X8_13 : FL RX8 13 8 5 true (.array .int) := ⟨_, _, _, _, cls8, by decide, rfl, rfl, rfl, Or.inl (tg 619 (by decide +kernel) rfl)⟩
theorem fl_X8_16 : FL RX8 16 8 6 true (.array .int) := ⟨_, _, _, _, cls8, by decide, rfl, rfl, rfl, Or.inl (tg 620 (by decide +kernel) rfl)⟩
theorem fl_X8_19 : FL RX8 19 8 7 true (.array .int) := ⟨_, _, _, _, cls8, by decide, rfl, rfl, rfl, Or.inl (tg 621 (by decide +kernel) rfl)⟩
theorem fl_X8_99 : FL RX8 99 8 8 false .int := ⟨_, _, _, _, cls8, by decide, rfl, rfl, rfl, Or.inl (tg 622 (by decide +kernel) rfl)⟩
theorem fl_X8_180 : FL RX8 180 8 9 false .int := ⟨_, _, _, _, cls8, by decide, rfl, rfl, rfl, Or.inl (tg 623 (by decide +kernel) rfl)⟩
theorem fl_X8_22 : FL RX8 22 8 10 true (.array .int) := ⟨_, _, _, _, cls8, by decide, rfl, rfl, rfl, Or.inl (tg 624 (by decide +kernel) rfl)⟩
theorem fl_X8_25 : FL RX8 25 8 11 true (.array .boolean) := ⟨_, _, _, _, cls8, by decide, rfl, rfl, rfl, Or.inl (tg 625 (by decide +kernel) rfl)⟩
theorem fl_X8_29 : FL RX8 29 8 12 true (.array .int) := ⟨_, _, _, _, cls8, by decide, rfl, rfl, rfl, Or.inl (tg 626 (by decide +kernel) rfl)⟩
theorem fl_X8_32 : FL RX8 32 8 13 true (.array .int) := ⟨_, _, _, _, cls8, by decide, rfl, rfl, rfl, Or.inl (tg 627 (by decide +kernel) rfl)⟩
theorem fl_X8_161 : FL RX8 161 8 14 false .int := ⟨_, _, _, _, cls8, by decide, rfl, rfl, rfl, Or.inl (tg 628 (by decide +kernel) rfl)⟩
theorem fl_X8_221 : FL RX8 221 8 15 false .long := ⟨_, _, _, _, cls8, by decide, rfl, rfl, rfl, Or.inl (tg 629 (by decide +kernel) rfl)⟩
theorem fl_X8_35 : FL RX8 35 8 16 true (.array .int) := ⟨_, _, _, _, cls8, by decide, rfl, rfl, rfl, Or.inl (tg 630 (by decide +kernel) rfl)⟩
theorem fl_X8_38 : FL RX8 38 8 17 true (.array .boolean) := ⟨_, _, _, _, cls8, by decide, rfl, rfl, rfl, Or.inl (tg 631 (by decide +kernel) rfl)⟩
theorem fl_X8_41 : FL RX8 41 8 18 true (.array .int) := ⟨_, _, _, _, cls8, by decide, rfl, rfl, rfl, Or.inl (tg 632 (by decide +kernel) rfl)⟩
theorem fl_X8_81 : FL RX8 81 8 19 false .int := ⟨_, _, _, _, cls8, by decide, rfl, rfl, rfl, Or.inl (tg 633 (by decide +kernel) rfl)⟩
theorem fl_X8_71 : FL RX8 71 8 20 false .int := ⟨_, _, _, _, cls8, by decide, rfl, rfl, rfl, Or.inl (tg 634 (by decide +kernel) rfl)⟩
theorem fl_X8_68 : FL RX8 68 8 21 false .int := ⟨_, _, _, _, cls8, by decide, rfl, rfl, rfl, Or.inl (tg 635 (by decide +kernel) rfl)⟩
theorem fl_X8_44 : FL RX8 44 8 22 true (.array .int) := ⟨_, _, _, _, cls8, by decide, rfl, rfl, rfl, Or.inl (tg 636 (by decide +kernel) rfl)⟩
theorem fl_X8_78 : FL RX8 78 8 23 false .int := ⟨_, _, _, _, cls8, by decide, rfl, rfl, rfl, Or.inl (tg 637 (by decide +kernel) rfl)⟩
theorem fl_X8_86 : FL RX8 86 8 24 false .int := ⟨_, _, _, _, cls8, by decide, rfl, rfl, rfl, Or.inl (tg 638 (by decide +kernel) rfl)⟩
theorem ml_L_17 : ML RL 17 yX8_write := Or.inl (tg 691 (by decide +kernel) rfl)
theorem kc_X8_63 : Cond.constantLong RX8 63 (255) ∈ tbG := tg 695 (by decide +kernel) rfl
theorem ml_X8_57 : ML RX8 57 yX8_in := Or.inl (tg 696 (by decide +kernel) rfl)
theorem ml_L_22 : ML RL 22 yX8_wipe := Or.inl (tg 699 (by decide +kernel) rfl)
theorem ml_L_26 : ML RL 26 yX8_fault := Or.inl (tg 703 (by decide +kernel) rfl)
theorem ml_X8_95 : ML RX8 95 yX8_readText := Or.inl (tg 707 (by decide +kernel) rfl)
theorem ml_X8_92 : ML RX8 92 yX8_take := Or.inl (tg 711 (by decide +kernel) rfl)
theorem kc_X8_84 : Cond.constantLong RX8 84 (6) ∈ tbG := tg 715 (by decide +kernel) rfl
theorem ml_X8_89 : ML RX8 89 yX8_hasRoomAsRead := Or.inl (tg 716 (by decide +kernel) rfl)
theorem ml_X8_74 : ML RX8 74 yX8_isEmptyAsRead := Or.inl (tg 720 (by decide +kernel) rfl)
theorem ml_L_30 : ML RL 30 yX8_map := Or.inl (tg 724 (by decide +kernel) rfl)
theorem ml_L_34 : ML RL 34 yX8_about := Or.inl (tg 728 (by decide +kernel) rfl)
theorem ml_X8_149 : ML RX8 149 yX8_blanks := Or.inl (tg 732 (by decide +kernel) rfl)
theorem ml_X8_126 : ML RX8 126 yX8_layOut := Or.inl (tg 736 (by decide +kernel) rfl)
theorem ml_X8_114 : ML RX8 114 yX8_has := Or.inl (tg 740 (by decide +kernel) rfl)
theorem ml_X8_118 : ML RX8 118 yX8_comes := Or.inl (tg 743 (by decide +kernel) rfl)
theorem ml_X8_102 : ML RX8 102 yX8_lineOf := Or.inl (tg 747 (by decide +kernel) rfl)
theorem ml_X8_106 : ML RX8 106 yX8_guessOf := Or.inl (tg 750 (by decide +kernel) rfl)
theorem ml_X8_122 : ML RX8 122 yX8_fill := Or.inl (tg 754 (by decide +kernel) rfl)
theorem ml_X8_142 : ML RX8 142 yX8_missBy := Or.inl (tg 758 (by decide +kernel) rfl)
theorem ml_X8_110 : ML RX8 110 yX8_sideOf := Or.inl (tg 762 (by decide +kernel) rfl)
theorem ml_X8_152 : ML RX8 152 yX8_bestChange := Or.inl (tg 766 (by decide +kernel) rfl)
theorem ml_X8_130 : ML RX8 130 yX8_sides := Or.inl (tg 770 (by decide +kernel) rfl)
theorem ml_X8_134 : ML RX8 134 yX8_copy := Or.inl (tg 774 (by decide +kernel) rfl)
theorem ml_X8_138 : ML RX8 138 yX8_changeOn := Or.inl (tg 777 (by decide +kernel) rfl)
theorem ml_X8_155 : ML RX8 155 yX8_bestShift := Or.inl (tg 780 (by decide +kernel) rfl)
theorem ml_X8_158 : ML RX8 158 yX8_band := Or.inl (tg 784 (by decide +kernel) rfl)
theorem ml_X8_145 : ML RX8 145 yX8_layOn := Or.inl (tg 788 (by decide +kernel) rfl)
theorem ml_L_39 : ML RL 39 yX8_shade := Or.inl (tg 792 (by decide +kernel) rfl)
theorem ml_X8_164 : ML RX8 164 yX8_isShade := Or.inl (tg 796 (by decide +kernel) rfl)
theorem ml_X8_167 : ML RX8 167 yX8_howOften := Or.inl (tg 800 (by decide +kernel) rfl)
theorem ml_L_43 : ML RL 43 yX8_cell := Or.inl (tg 804 (by decide +kernel) rfl)
theorem ml_X8_171 : ML RX8 171 yX8_isCell := Or.inl (tg 808 (by decide +kernel) rfl)
theorem ml_X8_174 : ML RX8 174 yX8_shadeAt := Or.inl (tg 812 (by decide +kernel) rfl)
theorem ml_L_47 : ML RL 47 yX8_guess := Or.inl (tg 816 (by decide +kernel) rfl)
theorem ml_L_52 : ML RL 52 yX8_dot := Or.inl (tg 820 (by decide +kernel) rfl)
theorem ml_X8_177 : ML RX8 177 yX8_isFour := Or.inl (tg 824 (by decide +kernel) rfl)
theorem kc_X8_61 : Cond.constantLong RX8 61 (3) ∈ tbG := tg 827 (by decide +kernel) rfl
theorem ml_L_56 : ML RL 56 yX8_change := Or.inl (tg 828 (by decide +kernel) rfl)
theorem ml_X8_183 : ML RX8 183 yX8_note := Or.inl (tg 832 (by decide +kernel) rfl)
theorem ml_L_61 : ML RL 61 yX8_move := Or.inl (tg 836 (by decide +kernel) rfl)
theorem ml_L_65 : ML RL 65 yX8_lay := Or.inl (tg 840 (by decide +kernel) rfl)
theorem kc_X8_186 : Cond.constantLong RX8 186 (5) ∈ tbG := tg 844 (by decide +kernel) rfl
theorem ml_L_69 : ML RL 69 yX8_paint := Or.inl (tg 845 (by decide +kernel) rfl)
theorem ml_L_73 : ML RL 73 yX8_shift := Or.inl (tg 849 (by decide +kernel) rfl)
theorem ml_L_77 : ML RL 77 yX8_lose := Or.inl (tg 853 (by decide +kernel) rfl)
theorem ml_L_81 : ML RL 81 yX8_undo := Or.inl (tg 857 (by decide +kernel) rfl)
theorem ml_L_85 : ML RL 85 yX8_miss := Or.inl (tg 861 (by decide +kernel) rfl)
theorem kc_X8_188 : Cond.constantLong RX8 188 (15) ∈ tbG := tg 865 (by decide +kernel) rfl
theorem ml_L_92 : ML RL 92 yX8_judge := Or.inl (tg 866 (by decide +kernel) rfl)
theorem kc_X8_192 : Cond.constantLong RX8 192 (4) ∈ tbG := tg 870 (by decide +kernel) rfl
theorem ml_X8_194 : ML RX8 194 yX8_thousands := Or.inl (tg 871 (by decide +kernel) rfl)
theorem kc_X8_190 : Cond.constantLong RX8 190 (1000) ∈ tbG := tg 874 (by decide +kernel) rfl
theorem ml_X8_198 : ML RX8 198 yX8_judged := Or.inl (tg 875 (by decide +kernel) rfl)
theorem ml_L_96 : ML RL 96 yX8_see := Or.inl (tg 879 (by decide +kernel) rfl)
theorem kc_X8_202 : Cond.constantLong RX8 202 (19) ∈ tbG := tg 883 (by decide +kernel) rfl
theorem ml_L_100 : ML RL 100 yX8_unsee := Or.inl (tg 884 (by decide +kernel) rfl)
theorem ml_L_104 : ML RL 104 yX8_which := Or.inl (tg 888 (by decide +kernel) rfl)
theorem ml_L_109 : ML RL 109 yX8_share := Or.inl (tg 892 (by decide +kernel) rfl)
theorem ml_X8_204 : ML RX8 204 yX8_ones := Or.inl (tg 896 (by decide +kernel) rfl)
theorem ml_X8_207 : ML RX8 207 yX8_factorial := Or.inl (tg 899 (by decide +kernel) rfl)
theorem ml_X8_210 : ML RX8 210 yX8_fraction := Or.inl (tg 902 (by decide +kernel) rfl)
theorem ml_L_113 : ML RL 113 yX8_chance := Or.inl (tg 905 (by decide +kernel) rfl)
theorem kc_X8_214 : Cond.constantLong RX8 214 (9999) ∈ tbG := tg 909 (by decide +kernel) rfl
theorem kc_X8_216 : Cond.constantLong RX8 216 (10) ∈ tbG := tg 910 (by decide +kernel) rfl
theorem ml_X8_218 : ML RX8 218 yX8_power := Or.inl (tg 911 (by decide +kernel) rfl)
theorem ml_L_117 : ML RL 117 yX8_mean := Or.inl (tg 914 (by decide +kernel) rfl)
theorem ml_L_122 : ML RL 122 yX8_seed := Or.inl (tg 918 (by decide +kernel) rfl)
theorem ml_L_126 : ML RL 126 yX8_drawn := Or.inl (tg 922 (by decide +kernel) rfl)
theorem kc_X8_225 : Cond.constantLong RX8 225 (20) ∈ tbG := tg 926 (by decide +kernel) rfl
theorem kc_X8_227 : Cond.constantLong RX8 227 (6364136223846793005) ∈ tbG := tg 927 (by decide +kernel) rfl
theorem kc_X8_229 : Cond.constantLong RX8 229 (1442695040888963407) ∈ tbG := tg 928 (by decide +kernel) rfl
theorem ml_L_130 : ML RL 130 yX8_keep := Or.inl (tg 929 (by decide +kernel) rfl)
theorem ml_L_134 : ML RL 134 yX8_again := Or.inl (tg 933 (by decide +kernel) rfl)
theorem kc_L_86 : Cond.constantLong RL 86 (4294967295) ∈ tbG := tg 937 (by decide +kernel) rfl
theorem acw : Cond.native arraycopyName ∈ tbG ∧ Cond.static arraycopyName ∈ tbG ∧ Cond.initialized "java/lang/System" ∈ tbG := ⟨tg 274 (by decide +kernel) rfl, tg 273 (by decide +kernel) rfl, tg 11 (by decide +kernel) rfl⟩
theorem mk_X0_remember : mokV MX0_remember 1 0 := ⟨tg 435 (by decide +kernel) rfl, tsl (q := (yX0_remember, 3)) 38 (by decide +kernel), tg 4 (by decide +kernel) rfl, tg 436 (by decide +kernel) rfl, ⟨by decide, by decide, by decide +kernel⟩, by decide, by decide, ⟨_, _, rfl⟩⟩
theorem mk_X0_takeBackInto : mokV MX0_takeBackInto 1 0 := ⟨tg 480 (by decide +kernel) rfl, tsl (q := (yX0_takeBackInto, 3)) 41 (by decide +kernel), tg 4 (by decide +kernel) rfl, tg 481 (by decide +kernel) rfl, ⟨by decide, by decide, by decide +kernel⟩, by decide, by decide, ⟨_, _, rfl⟩⟩
theorem mk_X0_forgetAll : mokV MX0_forgetAll 0 0 := ⟨tg 277 (by decide +kernel) rfl, tsl (q := (yX0_forgetAll, 3)) 11 (by decide +kernel), tg 4 (by decide +kernel) rfl, tg 278 (by decide +kernel) rfl, ⟨by decide, by decide, by decide +kernel⟩, by decide, by decide, ⟨_, _, rfl⟩⟩
theorem mk_X1_take : mokV MX1_take 1 1 := ⟨tg 297 (by decide +kernel) rfl, tsl (q := (yX1_take, 4)) 15 (by decide +kernel), tg 7 (by decide +kernel) rfl, tg 298 (by decide +kernel) rfl, ⟨by decide, by decide, by decide +kernel⟩, by decide, by decide, ⟨_, _, rfl⟩⟩
theorem mk_X1_count : mokV MX1_count 2 1 := ⟨tg 302 (by decide +kernel) rfl, tsl (q := (yX1_count, 4)) 16 (by decide +kernel), tg 7 (by decide +kernel) rfl, tg 303 (by decide +kernel) rfl, ⟨by decide, by decide, by decide +kernel⟩, by decide, by decide, ⟨_, _, rfl⟩⟩
theorem mk_X1_nearest : mokS MX1_nearest 2 := ⟨tg 305 (by decide +kernel) rfl, tg 7 (by decide +kernel) rfl, tg 306 (by decide +kernel) rfl, ⟨by decide, by decide, by decide +kernel⟩, by decide⟩
theorem mk_X1_takeSides : mokV MX1_takeSides 1 1 := ⟨tg 309 (by decide +kernel) rfl, tsl (q := (yX1_takeSides, 4)) 17 (by decide +kernel), tg 7 (by decide +kernel) rfl, tg 310 (by decide +kernel) rfl, ⟨by decide, by decide, by decide +kernel⟩, by decide, by decide, ⟨_, _, rfl⟩⟩
theorem mk_X1_of : mokV MX1_of 2 1 := ⟨tg 327 (by decide +kernel) rfl, tsl (q := (yX1_of, 4)) 20 (by decide +kernel), tg 7 (by decide +kernel) rfl, tg 328 (by decide +kernel) rfl, ⟨by decide, by decide, by decide +kernel⟩, by decide, by decide, ⟨_, _, rfl⟩⟩
theorem mk_X1_side : mokV MX1_side 1 1 := ⟨tg 354 (by decide +kernel) rfl, tsl (q := (yX1_side, 4)) 26 (by decide +kernel), tg 7 (by decide +kernel) rfl, tg 355 (by decide +kernel) rfl, ⟨by decide, by decide, by decide +kernel⟩, by decide, by decide, ⟨_, _, rfl⟩⟩
theorem mk_X2_missBy : mokV MX2_missBy 3 2 := ⟨tg 343 (by decide +kernel) rfl, tsl (q := (yX2_missBy, 3)) 24 (by decide +kernel), tg 8 (by decide +kernel) rfl, tg 344 (by decide +kernel) rfl, ⟨by decide, by decide, by decide +kernel⟩, by decide, by decide, ⟨_, _, rfl⟩⟩
theorem mk_X2_send : mokV MX2_send 3 2 := ⟨tg 293 (by decide +kernel) rfl, tsl (q := (yX2_send, 3)) 14 (by decide +kernel), tg 8 (by decide +kernel) rfl, tg 294 (by decide +kernel) rfl, ⟨by decide, by decide, by decide +kernel⟩, by decide, by decide, ⟨_, _, rfl⟩⟩
theorem mk_X2_came : mokS MX2_came 2 := ⟨tg 315 (by decide +kernel) rfl, tg 8 (by decide +kernel) rfl, tg 316 (by decide +kernel) rfl, ⟨by decide, by decide, by decide +kernel⟩, by decide⟩
theorem mk_X2_isBlank : mokV MX2_isBlank 1 2 := ⟨tg 331 (by decide +kernel) rfl, tsl (q := (yX2_isBlank, 3)) 21 (by decide +kernel), tg 8 (by decide +kernel) rfl, tg 332 (by decide +kernel) rfl, ⟨by decide, by decide, by decide +kernel⟩, by decide, by decide, ⟨_, _, rfl⟩⟩
theorem mk_X2_fill : mokV MX2_fill 4 2 := ⟨tg 319 (by decide +kernel) rfl, tsl (q := (yX2_fill, 3)) 18 (by decide +kernel), tg 8 (by decide +kernel) rfl, tg 320 (by decide +kernel) rfl, ⟨by decide, by decide, by decide +kernel⟩, by decide, by decide, ⟨_, _, rfl⟩⟩
theorem mk_X2_fillBlank : mokV MX2_fillBlank 1 2 := ⟨tg 335 (by decide +kernel) rfl, tsl (q := (yX2_fillBlank, 3)) 22 (by decide +kernel), tg 8 (by decide +kernel) rfl, tg 336 (by decide +kernel) rfl, ⟨by decide, by decide, by decide +kernel⟩, by decide, by decide, ⟨_, _, rfl⟩⟩
theorem mk_X2_between : mokV MX2_between 3 2 := ⟨tg 339 (by decide +kernel) rfl, tsl (q := (yX2_between, 3)) 23 (by decide +kernel), tg 8 (by decide +kernel) rfl, tg 340 (by decide +kernel) rfl, ⟨by decide, by decide, by decide +kernel⟩, by decide, by decide, ⟨_, _, rfl⟩⟩
theorem mk_X3_add : mokV MX3_add 2 3 := ⟨tg 523 (by decide +kernel) rfl, tsl (q := (yX3_add, 3)) 48 (by decide +kernel), tg 6 (by decide +kernel) rfl, tg 524 (by decide +kernel) rfl, ⟨by decide, by decide, by decide +kernel⟩, by decide, by decide, ⟨_, _, rfl⟩⟩
theorem mk_X3_isSo : mokV MX3_isSo 1 3 := ⟨tg 535 (by decide +kernel) rfl, tsl (q := (yX3_isSo, 3)) 49 (by decide +kernel), tg 6 (by decide +kernel) rfl, tg 536 (by decide +kernel) rfl, ⟨by decide, by decide, by decide +kernel⟩, by decide, by decide, ⟨_, _, rfl⟩⟩
theorem mk_X4_put : mokV MX4_put 2 4 := ⟨tg 597 (by decide +kernel) rfl, tsl (q := (yX4_put, 2)) 52 (by decide +kernel), tg 5 (by decide +kernel) rfl, tg 598 (by decide +kernel) rfl, ⟨by decide, by decide, by decide +kernel⟩, by decide, by decide, ⟨_, _, rfl⟩⟩
theorem mk_X4_takeInto : mokV MX4_takeInto 2 4 := ⟨tg 606 (by decide +kernel) rfl, tsl (q := (yX4_takeInto, 2)) 53 (by decide +kernel), tg 5 (by decide +kernel) rfl, tg 607 (by decide +kernel) rfl, ⟨by decide, by decide, by decide +kernel⟩, by decide, by decide, ⟨_, _, rfl⟩⟩
theorem mk_X4_forgetAll : mokV MX4_forgetAll 0 4 := ⟨tg 281 (by decide +kernel) rfl, tsl (q := (yX4_forgetAll, 2)) 12 (by decide +kernel), tg 5 (by decide +kernel) rfl, tg 282 (by decide +kernel) rfl, ⟨by decide, by decide, by decide +kernel⟩, by decide, by decide, ⟨_, _, rfl⟩⟩
theorem mk_X5_renew : mokV MX5_renew 0 5 := ⟨tg 227 (by decide +kernel) rfl, tsl (q := (yX5_renew, 8)) 2 (by decide +kernel), tg 3 (by decide +kernel) rfl, tg 228 (by decide +kernel) rfl, ⟨by decide, by decide, by decide +kernel⟩, by decide, by decide, ⟨_, _, rfl⟩⟩
theorem mk_X5_copy : mokV MX5_copy 1 5 := ⟨tg 270 (by decide +kernel) rfl, tsl (q := (yX5_copy, 8)) 10 (by decide +kernel), tg 3 (by decide +kernel) rfl, tg 271 (by decide +kernel) rfl, ⟨by decide, by decide, by decide +kernel⟩, by decide, by decide, ⟨_, _, rfl⟩⟩
theorem mk_X5_tellRows : mokV MX5_tellRows 1 5 := ⟨tg 237 (by decide +kernel) rfl, tsl (q := (yX5_tellRows, 8)) 3 (by decide +kernel), tg 3 (by decide +kernel) rfl, tg 238 (by decide +kernel) rfl, ⟨by decide, by decide, by decide +kernel⟩, by decide, by decide, ⟨_, _, rfl⟩⟩
theorem mk_X5_tellColumns : mokV MX5_tellColumns 1 5 := ⟨tg 241 (by decide +kernel) rfl, tsl (q := (yX5_tellColumns, 8)) 4 (by decide +kernel), tg 3 (by decide +kernel) rfl, tg 242 (by decide +kernel) rfl, ⟨by decide, by decide, by decide +kernel⟩, by decide, by decide, ⟨_, _, rfl⟩⟩
theorem mk_X5_hasRoom : mokV MX5_hasRoom 0 5 := ⟨tg 245 (by decide +kernel) rfl, tsl (q := (yX5_hasRoom, 8)) 5 (by decide +kernel), tg 3 (by decide +kernel) rfl, tg 246 (by decide +kernel) rfl, ⟨by decide, by decide, by decide +kernel⟩, by decide, by decide, ⟨_, _, rfl⟩⟩
theorem mk_X5_tellRow : mokV MX5_tellRow 1 5 := ⟨tg 249 (by decide +kernel) rfl, tsl (q := (yX5_tellRow, 8)) 6 (by decide +kernel), tg 3 (by decide +kernel) rfl, tg 250 (by decide +kernel) rfl, ⟨by decide, by decide, by decide +kernel⟩, by decide, by decide, ⟨_, _, rfl⟩⟩
theorem mk_X5_tellColumn : mokV MX5_tellColumn 1 5 := ⟨tg 258 (by decide +kernel) rfl, tsl (q := (yX5_tellColumn, 8)) 8 (by decide +kernel), tg 3 (by decide +kernel) rfl, tg 259 (by decide +kernel) rfl, ⟨by decide, by decide, by decide +kernel⟩, by decide, by decide, ⟨_, _, rfl⟩⟩
theorem mk_X5_hasShade : mokV MX5_hasShade 1 5 := ⟨tg 323 (by decide +kernel) rfl, tsl (q := (yX5_hasShade, 8)) 19 (by decide +kernel), tg 3 (by decide +kernel) rfl, tg 324 (by decide +kernel) rfl, ⟨by decide, by decide, by decide +kernel⟩, by decide, by decide, ⟨_, _, rfl⟩⟩
theorem mk_X5_hasCell : mokV MX5_hasCell 2 5 := ⟨tg 410 (by decide +kernel) rfl, tsl (q := (yX5_hasCell, 8)) 36 (by decide +kernel), tg 3 (by decide +kernel) rfl, tg 411 (by decide +kernel) rfl, ⟨by decide, by decide, by decide +kernel⟩, by decide, by decide, ⟨_, _, rfl⟩⟩
theorem mk_X5_numbersOf : mokV MX5_numbersOf 1 5 := ⟨tg 419 (by decide +kernel) rfl, tsl (q := (yX5_numbersOf, 8)) 37 (by decide +kernel), tg 3 (by decide +kernel) rfl, tg 420 (by decide +kernel) rfl, ⟨by decide, by decide, by decide +kernel⟩, by decide, by decide, ⟨_, _, rfl⟩⟩
theorem mk_X5_shadeIn : mokV MX5_shadeIn 2 5 := ⟨tg 262 (by decide +kernel) rfl, tsl (q := (yX5_shadeIn, 8)) 9 (by decide +kernel), tg 3 (by decide +kernel) rfl, tg 263 (by decide +kernel) rfl, ⟨by decide, by decide, by decide +kernel⟩, by decide, by decide, ⟨_, _, rfl⟩⟩
theorem mk_X5_shadesInRow : mokV MX5_shadesInRow 1 5 := ⟨tg 254 (by decide +kernel) rfl, tsl (q := (yX5_shadesInRow, 8)) 7 (by decide +kernel), tg 3 (by decide +kernel) rfl, tg 255 (by decide +kernel) rfl, ⟨by decide, by decide, by decide +kernel⟩, by decide, by decide, ⟨_, _, rfl⟩⟩
theorem mk_X5_timesPainted : mokV MX5_timesPainted 1 5 := ⟨tg 402 (by decide +kernel) rfl, tsl (q := (yX5_timesPainted, 8)) 35 (by decide +kernel), tg 3 (by decide +kernel) rfl, tg 403 (by decide +kernel) rfl, ⟨by decide, by decide, by decide +kernel⟩, by decide, by decide, ⟨_, _, rfl⟩⟩
theorem mk_X5_put : mokV MX5_put 3 5 := ⟨tg 371 (by decide +kernel) rfl, tsl (q := (yX5_put, 8)) 30 (by decide +kernel), tg 3 (by decide +kernel) rfl, tg 372 (by decide +kernel) rfl, ⟨by decide, by decide, by decide +kernel⟩, by decide, by decide, ⟨_, _, rfl⟩⟩
theorem mk_X5_swap : mokV MX5_swap 2 5 := ⟨tg 366 (by decide +kernel) rfl, tsl (q := (yX5_swap, 8)) 29 (by decide +kernel), tg 3 (by decide +kernel) rfl, tg 367 (by decide +kernel) rfl, ⟨by decide, by decide, by decide +kernel⟩, by decide, by decide, ⟨_, _, rfl⟩⟩
theorem mk_X5_cellsWithin : mokV MX5_cellsWithin 1 5 := ⟨tg 390 (by decide +kernel) rfl, tsl (q := (yX5_cellsWithin, 8)) 34 (by decide +kernel), tg 3 (by decide +kernel) rfl, tg 391 (by decide +kernel) rfl, ⟨by decide, by decide, by decide +kernel⟩, by decide, by decide, ⟨_, _, rfl⟩⟩
theorem mk_X5_layWithin : mokV MX5_layWithin 1 5 := ⟨tg 449 (by decide +kernel) rfl, tsl (q := (yX5_layWithin, 8)) 39 (by decide +kernel), tg 3 (by decide +kernel) rfl, tg 450 (by decide +kernel) rfl, ⟨by decide, by decide, by decide +kernel⟩, by decide, by decide, ⟨_, _, rfl⟩⟩
theorem mk_X5_loseOrFind : mokV MX5_loseOrFind 1 5 := ⟨tg 472 (by decide +kernel) rfl, tsl (q := (yX5_loseOrFind, 8)) 40 (by decide +kernel), tg 3 (by decide +kernel) rfl, tg 473 (by decide +kernel) rfl, ⟨by decide, by decide, by decide +kernel⟩, by decide, by decide, ⟨_, _, rfl⟩⟩
theorem mk_X5_paintBy : mokV MX5_paintBy 1 5 := ⟨tg 586 (by decide +kernel) rfl, tsl (q := (yX5_paintBy, 8)) 51 (by decide +kernel), tg 3 (by decide +kernel) rfl, tg 587 (by decide +kernel) rfl, ⟨by decide, by decide, by decide +kernel⟩, by decide, by decide, ⟨_, _, rfl⟩⟩
theorem mk_X6_add : mokV MX6_add 1 6 := ⟨tg 211 (by decide +kernel) rfl, tsl (q := (yX6_add, 2)) 0 (by decide +kernel), tg 2 (by decide +kernel) rfl, tg 212 (by decide +kernel) rfl, ⟨by decide, by decide, by decide +kernel⟩, by decide, by decide, ⟨_, _, rfl⟩⟩
theorem mk_X6_readInto : mokV MX6_readInto 1 6 := ⟨tg 223 (by decide +kernel) rfl, tsl (q := (yX6_readInto, 2)) 1 (by decide +kernel), tg 2 (by decide +kernel) rfl, tg 224 (by decide +kernel) rfl, ⟨by decide, by decide, by decide +kernel⟩, by decide, by decide, ⟨_, _, rfl⟩⟩
theorem mk_X6_takes : mokS MX6_takes 3 := ⟨tg 233 (by decide +kernel) rfl, tg 2 (by decide +kernel) rfl, tg 234 (by decide +kernel) rfl, ⟨by decide, by decide, by decide +kernel⟩, by decide⟩
theorem mk_X7_write : mokV MX7_write 1 7 := ⟨tg 206 (by decide +kernel) rfl, tg 207 (by decide +kernel) rfl, tg 1 (by decide +kernel) rfl, tg 208 (by decide +kernel) rfl, ⟨by decide, by decide, by decide +kernel⟩, by decide, by decide, ⟨_, _, rfl⟩⟩
theorem mk_X7_wipe : mokV MX7_wipe 0 7 := ⟨tg 214 (by decide +kernel) rfl, tg 215 (by decide +kernel) rfl, tg 1 (by decide +kernel) rfl, tg 216 (by decide +kernel) rfl, ⟨by decide, by decide, by decide +kernel⟩, by decide, by decide, ⟨_, _, rfl⟩⟩
theorem mk_X7_fault : mokV MX7_fault 0 7 := ⟨tg 218 (by decide +kernel) rfl, tg 219 (by decide +kernel) rfl, tg 1 (by decide +kernel) rfl, tg 220 (by decide +kernel) rfl, ⟨by decide, by decide, by decide +kernel⟩, by decide, by decide, ⟨_, _, rfl⟩⟩
theorem mk_X7_map : mokV MX7_map 0 7 := ⟨tg 265 (by decide +kernel) rfl, tg 266 (by decide +kernel) rfl, tg 1 (by decide +kernel) rfl, tg 267 (by decide +kernel) rfl, ⟨by decide, by decide, by decide +kernel⟩, by decide, by decide, ⟨_, _, rfl⟩⟩
theorem mk_X7_about : mokV MX7_about 1 7 := ⟨tg 284 (by decide +kernel) rfl, tg 285 (by decide +kernel) rfl, tg 1 (by decide +kernel) rfl, tg 286 (by decide +kernel) rfl, ⟨by decide, by decide, by decide +kernel⟩, by decide, by decide, ⟨_, _, rfl⟩⟩
theorem mk_X7_shade : mokV MX7_shade 2 7 := ⟨tg 396 (by decide +kernel) rfl, tg 397 (by decide +kernel) rfl, tg 1 (by decide +kernel) rfl, tg 398 (by decide +kernel) rfl, ⟨by decide, by decide, by decide +kernel⟩, by decide, by decide, ⟨_, _, rfl⟩⟩
theorem mk_X7_cell : mokV MX7_cell 2 7 := ⟨tg 405 (by decide +kernel) rfl, tg 406 (by decide +kernel) rfl, tg 1 (by decide +kernel) rfl, tg 407 (by decide +kernel) rfl, ⟨by decide, by decide, by decide +kernel⟩, by decide, by decide, ⟨_, _, rfl⟩⟩
theorem mk_X7_guess : mokV MX7_guess 2 7 := ⟨tg 414 (by decide +kernel) rfl, tg 415 (by decide +kernel) rfl, tg 1 (by decide +kernel) rfl, tg 416 (by decide +kernel) rfl, ⟨by decide, by decide, by decide +kernel⟩, by decide, by decide, ⟨_, _, rfl⟩⟩
theorem mk_X7_dot : mokV MX7_dot 3 7 := ⟨tg 423 (by decide +kernel) rfl, tg 424 (by decide +kernel) rfl, tg 1 (by decide +kernel) rfl, tg 425 (by decide +kernel) rfl, ⟨by decide, by decide, by decide +kernel⟩, by decide, by decide, ⟨_, _, rfl⟩⟩
theorem mk_X7_change : mokV MX7_change 2 7 := ⟨tg 430 (by decide +kernel) rfl, tg 431 (by decide +kernel) rfl, tg 1 (by decide +kernel) rfl, tg 432 (by decide +kernel) rfl, ⟨by decide, by decide, by decide +kernel⟩, by decide, by decide, ⟨_, _, rfl⟩⟩
theorem mk_X7_move : mokV MX7_move 3 7 := ⟨tg 439 (by decide +kernel) rfl, tg 440 (by decide +kernel) rfl, tg 1 (by decide +kernel) rfl, tg 441 (by decide +kernel) rfl, ⟨by decide, by decide, by decide +kernel⟩, by decide, by decide, ⟨_, _, rfl⟩⟩
theorem mk_X7_lay : mokV MX7_lay 1 7 := ⟨tg 444 (by decide +kernel) rfl, tg 445 (by decide +kernel) rfl, tg 1 (by decide +kernel) rfl, tg 446 (by decide +kernel) rfl, ⟨by decide, by decide, by decide +kernel⟩, by decide, by decide, ⟨_, _, rfl⟩⟩
theorem mk_X7_paint : mokV MX7_paint 3 7 := ⟨tg 453 (by decide +kernel) rfl, tg 454 (by decide +kernel) rfl, tg 1 (by decide +kernel) rfl, tg 455 (by decide +kernel) rfl, ⟨by decide, by decide, by decide +kernel⟩, by decide, by decide, ⟨_, _, rfl⟩⟩
theorem mk_X7_shift : mokV MX7_shift 1 7 := ⟨tg 457 (by decide +kernel) rfl, tg 458 (by decide +kernel) rfl, tg 1 (by decide +kernel) rfl, tg 459 (by decide +kernel) rfl, ⟨by decide, by decide, by decide +kernel⟩, by decide, by decide, ⟨_, _, rfl⟩⟩
theorem mk_X7_lose : mokV MX7_lose 1 7 := ⟨tg 464 (by decide +kernel) rfl, tg 465 (by decide +kernel) rfl, tg 1 (by decide +kernel) rfl, tg 466 (by decide +kernel) rfl, ⟨by decide, by decide, by decide +kernel⟩, by decide, by decide, ⟨_, _, rfl⟩⟩
theorem mk_X7_undo : mokV MX7_undo 0 7 := ⟨tg 475 (by decide +kernel) rfl, tg 476 (by decide +kernel) rfl, tg 1 (by decide +kernel) rfl, tg 477 (by decide +kernel) rfl, ⟨by decide, by decide, by decide +kernel⟩, by decide, by decide, ⟨_, _, rfl⟩⟩
theorem mk_X7_miss : mokV MX7_miss 1 7 := ⟨tg 483 (by decide +kernel) rfl, tg 484 (by decide +kernel) rfl, tg 1 (by decide +kernel) rfl, tg 485 (by decide +kernel) rfl, ⟨by decide, by decide, by decide +kernel⟩, by decide, by decide, ⟨_, _, rfl⟩⟩
theorem mk_X7_judge : mokV MX7_judge 2 7 := ⟨tg 487 (by decide +kernel) rfl, tg 488 (by decide +kernel) rfl, tg 1 (by decide +kernel) rfl, tg 489 (by decide +kernel) rfl, ⟨by decide, by decide, by decide +kernel⟩, by decide, by decide, ⟨_, _, rfl⟩⟩
theorem mk_X7_see : mokV MX7_see 3 7 := ⟨tg 518 (by decide +kernel) rfl, tg 519 (by decide +kernel) rfl, tg 1 (by decide +kernel) rfl, tg 520 (by decide +kernel) rfl, ⟨by decide, by decide, by decide +kernel⟩, by decide, by decide, ⟨_, _, rfl⟩⟩
theorem mk_X7_unsee : mokV MX7_unsee 0 7 := ⟨tg 526 (by decide +kernel) rfl, tg 527 (by decide +kernel) rfl, tg 1 (by decide +kernel) rfl, tg 528 (by decide +kernel) rfl, ⟨by decide, by decide, by decide +kernel⟩, by decide, by decide, ⟨_, _, rfl⟩⟩
theorem mk_X7_which : mokV MX7_which 0 7 := ⟨tg 530 (by decide +kernel) rfl, tg 531 (by decide +kernel) rfl, tg 1 (by decide +kernel) rfl, tg 532 (by decide +kernel) rfl, ⟨by decide, by decide, by decide +kernel⟩, by decide, by decide, ⟨_, _, rfl⟩⟩
theorem mk_X7_share : mokV MX7_share 2 7 := ⟨tg 538 (by decide +kernel) rfl, tg 539 (by decide +kernel) rfl, tg 1 (by decide +kernel) rfl, tg 540 (by decide +kernel) rfl, ⟨by decide, by decide, by decide +kernel⟩, by decide, by decide, ⟨_, _, rfl⟩⟩
theorem mk_X7_chance : mokV MX7_chance 3 7 := ⟨tg 561 (by decide +kernel) rfl, tg 562 (by decide +kernel) rfl, tg 1 (by decide +kernel) rfl, tg 563 (by decide +kernel) rfl, ⟨by decide, by decide, by decide +kernel⟩, by decide, by decide, ⟨_, _, rfl⟩⟩
theorem mk_X7_mean : mokV MX7_mean 2 7 := ⟨tg 571 (by decide +kernel) rfl, tg 572 (by decide +kernel) rfl, tg 1 (by decide +kernel) rfl, tg 573 (by decide +kernel) rfl, ⟨by decide, by decide, by decide +kernel⟩, by decide, by decide, ⟨_, _, rfl⟩⟩
theorem mk_X7_seed : mokV MX7_seed 1 7 := ⟨tg 575 (by decide +kernel) rfl, tg 576 (by decide +kernel) rfl, tg 1 (by decide +kernel) rfl, tg 577 (by decide +kernel) rfl, ⟨by decide, by decide, by decide +kernel⟩, by decide, by decide, ⟨_, _, rfl⟩⟩
theorem mk_X7_drawn : mokV MX7_drawn 1 7 := ⟨tg 579 (by decide +kernel) rfl, tg 580 (by decide +kernel) rfl, tg 1 (by decide +kernel) rfl, tg 581 (by decide +kernel) rfl, ⟨by decide, by decide, by decide +kernel⟩, by decide, by decide, ⟨_, _, rfl⟩⟩
theorem mk_X7_keep : mokV MX7_keep 1 7 := ⟨tg 589 (by decide +kernel) rfl, tg 590 (by decide +kernel) rfl, tg 1 (by decide +kernel) rfl, tg 591 (by decide +kernel) rfl, ⟨by decide, by decide, by decide +kernel⟩, by decide, by decide, ⟨_, _, rfl⟩⟩
theorem mk_X7_again : mokV MX7_again 1 7 := ⟨tg 601 (by decide +kernel) rfl, tg 602 (by decide +kernel) rfl, tg 1 (by decide +kernel) rfl, tg 603 (by decide +kernel) rfl, ⟨by decide, by decide, by decide +kernel⟩, by decide, by decide, ⟨_, _, rfl⟩⟩
theorem mk_X7_isDot : mokS MX7_isDot 2 := ⟨tg 427 (by decide +kernel) rfl, tg 1 (by decide +kernel) rfl, tg 428 (by decide +kernel) rfl, ⟨by decide, by decide, by decide +kernel⟩, by decide⟩
theorem mk_X7_isPack : mokS MX7_isPack 1 := ⟨tg 468 (by decide +kernel) rfl, tg 1 (by decide +kernel) rfl, tg 469 (by decide +kernel) rfl, ⟨by decide, by decide, by decide +kernel⟩, by decide⟩
theorem mk_X7_isShift : mokS MX7_isShift 1 := ⟨tg 461 (by decide +kernel) rfl, tg 1 (by decide +kernel) rfl, tg 462 (by decide +kernel) rfl, ⟨by decide, by decide, by decide +kernel⟩, by decide⟩
theorem mk_X7_isTenths : mokS MX7_isTenths 1 := ⟨tg 565 (by decide +kernel) rfl, tg 1 (by decide +kernel) rfl, tg 566 (by decide +kernel) rfl, ⟨by decide, by decide, by decide +kernel⟩, by decide⟩
theorem mk_X7_isSlot : mokS MX7_isSlot 1 := ⟨tg 593 (by decide +kernel) rfl, tg 1 (by decide +kernel) rfl, tg 594 (by decide +kernel) rfl, ⟨by decide, by decide, by decide +kernel⟩, by decide⟩
theorem mk_X7_blankNow : mokV MX7_blankNow 0 7 := ⟨tg 289 (by decide +kernel) rfl, tsl (q := (yX7_blankNow, 10)) 13 (by decide +kernel), tg 1 (by decide +kernel) rfl, tg 290 (by decide +kernel) rfl, ⟨by decide, by decide, by decide +kernel⟩, by decide, by decide, ⟨_, _, rfl⟩⟩
theorem mk_X7_sideOf : mokV MX7_sideOf 1 7 := ⟨tg 349 (by decide +kernel) rfl, tsl (q := (yX7_sideOf, 10)) 25 (by decide +kernel), tg 1 (by decide +kernel) rfl, tg 350 (by decide +kernel) rfl, ⟨by decide, by decide, by decide +kernel⟩, by decide, by decide, ⟨_, _, rfl⟩⟩
theorem mk_X7_bothSides : mokV MX7_bothSides 1 7 := ⟨tg 362 (by decide +kernel) rfl, tsl (q := (yX7_bothSides, 10)) 28 (by decide +kernel), tg 1 (by decide +kernel) rfl, tg 363 (by decide +kernel) rfl, ⟨by decide, by decide, by decide +kernel⟩, by decide, by decide, ⟨_, _, rfl⟩⟩
theorem mk_X7_bestChange : mokV MX7_bestChange 0 7 := ⟨tg 358 (by decide +kernel) rfl, tsl (q := (yX7_bestChange, 10)) 27 (by decide +kernel), tg 1 (by decide +kernel) rfl, tg 359 (by decide +kernel) rfl, ⟨by decide, by decide, by decide +kernel⟩, by decide, by decide, ⟨_, _, rfl⟩⟩
theorem mk_X7_bestShift : mokV MX7_bestShift 0 7 := ⟨tg 375 (by decide +kernel) rfl, tsl (q := (yX7_bestShift, 10)) 31 (by decide +kernel), tg 1 (by decide +kernel) rfl, tg 376 (by decide +kernel) rfl, ⟨by decide, by decide, by decide +kernel⟩, by decide, by decide, ⟨_, _, rfl⟩⟩
theorem mk_X7_greatestMiss : mokV MX7_greatestMiss 1 7 := ⟨tg 379 (by decide +kernel) rfl, tsl (q := (yX7_greatestMiss, 10)) 32 (by decide +kernel), tg 1 (by decide +kernel) rfl, tg 380 (by decide +kernel) rfl, ⟨by decide, by decide, by decide +kernel⟩, by decide, by decide, ⟨_, _, rfl⟩⟩
theorem mk_X7_band : mokV MX7_band 0 7 := ⟨tg 386 (by decide +kernel) rfl, tsl (q := (yX7_band, 10)) 33 (by decide +kernel), tg 1 (by decide +kernel) rfl, tg 387 (by decide +kernel) rfl, ⟨by decide, by decide, by decide +kernel⟩, by decide, by decide, ⟨_, _, rfl⟩⟩
theorem mk_X7_goesWell : mokV MX7_goesWell 3 7 := ⟨tg 495 (by decide +kernel) rfl, tsl (q := (yX7_goesWell, 10)) 42 (by decide +kernel), tg 1 (by decide +kernel) rfl, tg 496 (by decide +kernel) rfl, ⟨by decide, by decide, by decide +kernel⟩, by decide, by decide, ⟨_, _, rfl⟩⟩
theorem mk_X7_triedPack : mokV MX7_triedPack 1 7 := ⟨tg 499 (by decide +kernel) rfl, tsl (q := (yX7_triedPack, 10)) 43 (by decide +kernel), tg 1 (by decide +kernel) rfl, tg 500 (by decide +kernel) rfl, ⟨by decide, by decide, by decide +kernel⟩, by decide, by decide, ⟨_, _, rfl⟩⟩
theorem mk_X7_triedShift : mokV MX7_triedShift 1 7 := ⟨tg 503 (by decide +kernel) rfl, tsl (q := (yX7_triedShift, 10)) 44 (by decide +kernel), tg 1 (by decide +kernel) rfl, tg 504 (by decide +kernel) rfl, ⟨by decide, by decide, by decide +kernel⟩, by decide, by decide, ⟨_, _, rfl⟩⟩
theorem mk_X7_comesOutRight : mokV MX7_comesOutRight 1 7 := ⟨tg 507 (by decide +kernel) rfl, tsl (q := (yX7_comesOutRight, 10)) 45 (by decide +kernel), tg 1 (by decide +kernel) rfl, tg 508 (by decide +kernel) rfl, ⟨by decide, by decide, by decide +kernel⟩, by decide, by decide, ⟨_, _, rfl⟩⟩
theorem mk_X7_comesOutBlank : mokV MX7_comesOutBlank 1 7 := ⟨tg 511 (by decide +kernel) rfl, tsl (q := (yX7_comesOutBlank, 10)) 46 (by decide +kernel), tg 1 (by decide +kernel) rfl, tg 512 (by decide +kernel) rfl, ⟨by decide, by decide, by decide +kernel⟩, by decide, by decide, ⟨_, _, rfl⟩⟩
theorem mk_X7_triedChange : mokV MX7_triedChange 2 7 := ⟨tg 515 (by decide +kernel) rfl, tsl (q := (yX7_triedChange, 10)) 47 (by decide +kernel), tg 1 (by decide +kernel) rfl, tg 516 (by decide +kernel) rfl, ⟨by decide, by decide, by decide +kernel⟩, by decide, by decide, ⟨_, _, rfl⟩⟩
theorem mk_X7_tellMisses : mokV MX7_tellMisses 0 7 := ⟨tg 543 (by decide +kernel) rfl, tsl (q := (yX7_tellMisses, 10)) 50 (by decide +kernel), tg 1 (by decide +kernel) rfl, tg 544 (by decide +kernel) rfl, ⟨by decide, by decide, by decide +kernel⟩, by decide, by decide, ⟨_, _, rfl⟩⟩
theorem mk_X7_likelihood : mokS MX7_likelihood 2 := ⟨tg 568 (by decide +kernel) rfl, tg 1 (by decide +kernel) rfl, tg 569 (by decide +kernel) rfl, ⟨by decide, by decide, by decide +kernel⟩, by decide⟩
theorem mk_X7_fraction : mokS MX7_fraction 3 := ⟨tg 554 (by decide +kernel) rfl, tg 1 (by decide +kernel) rfl, tg 555 (by decide +kernel) rfl, ⟨by decide, by decide, by decide +kernel⟩, by decide⟩
theorem mk_X7_commonDivisor : mokS MX7_commonDivisor 2 := ⟨tg 558 (by decide +kernel) rfl, tg 1 (by decide +kernel) rfl, tg 559 (by decide +kernel) rfl, ⟨by decide, by decide, by decide +kernel⟩, by decide⟩
theorem mk_X7_square : mokS MX7_square 1 := ⟨tg 312 (by decide +kernel) rfl, tg 1 (by decide +kernel) rfl, tg 313 (by decide +kernel) rfl, ⟨by decide, by decide, by decide +kernel⟩, by decide⟩
theorem mk_X8_copy : mokS MX8_copy 2 := ⟨tg 775 (by decide +kernel) rfl, tg 9 (by decide +kernel) rfl, tg 776 (by decide +kernel) rfl, ⟨by decide, by decide, by decide +kernel⟩, by decide⟩
theorem mk_X8_in : mokS MX8_in 3 := ⟨tg 697 (by decide +kernel) rfl, tg 9 (by decide +kernel) rfl, tg 698 (by decide +kernel) rfl, ⟨by decide, by decide, by decide +kernel⟩, by decide⟩
theorem mk_X8_has : mokS MX8_has 2 := ⟨tg 741 (by decide +kernel) rfl, tg 9 (by decide +kernel) rfl, tg 742 (by decide +kernel) rfl, ⟨by decide, by decide, by decide +kernel⟩, by decide⟩
theorem mk_X8_ones : mokS MX8_ones 1 := ⟨tg 897 (by decide +kernel) rfl, tg 9 (by decide +kernel) rfl, tg 898 (by decide +kernel) rfl, ⟨by decide, by decide, by decide +kernel⟩, by decide⟩
theorem mk_X8_power : mokS MX8_power 2 := ⟨tg 912 (by decide +kernel) rfl, tg 9 (by decide +kernel) rfl, tg 913 (by decide +kernel) rfl, ⟨by decide, by decide, by decide +kernel⟩, by decide⟩
theorem mk_X8_factorial : mokS MX8_factorial 1 := ⟨tg 900 (by decide +kernel) rfl, tg 9 (by decide +kernel) rfl, tg 901 (by decide +kernel) rfl, ⟨by decide, by decide, by decide +kernel⟩, by decide⟩
theorem mk_X8_fraction : mokS MX8_fraction 3 := ⟨tg 903 (by decide +kernel) rfl, tg 9 (by decide +kernel) rfl, tg 904 (by decide +kernel) rfl, ⟨by decide, by decide, by decide +kernel⟩, by decide⟩
theorem mk_X8_isShade : mokV MX8_isShade 1 8 := ⟨tg 798 (by decide +kernel) rfl, tsl (q := (yX8_isShade, 25)) 70 (by decide +kernel), tg 9 (by decide +kernel) rfl, tg 799 (by decide +kernel) rfl, ⟨by decide, by decide, by decide +kernel⟩, by decide, by decide, ⟨_, _, rfl⟩⟩
theorem mk_X8_isFour : mokS MX8_isFour 1 := ⟨tg 825 (by decide +kernel) rfl, tg 9 (by decide +kernel) rfl, tg 826 (by decide +kernel) rfl, ⟨by decide, by decide, by decide +kernel⟩, by decide⟩
theorem mk_X8_write : mokV MX8_write 1 8 := ⟨tg 692 (by decide +kernel) rfl, tg 693 (by decide +kernel) rfl, tg 9 (by decide +kernel) rfl, tg 694 (by decide +kernel) rfl, ⟨by decide, by decide, by decide +kernel⟩, by decide, by decide, ⟨_, _, rfl⟩⟩
theorem mk_X8_wipe : mokV MX8_wipe 0 8 := ⟨tg 700 (by decide +kernel) rfl, tg 701 (by decide +kernel) rfl, tg 9 (by decide +kernel) rfl, tg 702 (by decide +kernel) rfl, ⟨by decide, by decide, by decide +kernel⟩, by decide, by decide, ⟨_, _, rfl⟩⟩
theorem mk_X8_isEmptyAsRead : mokV MX8_isEmptyAsRead 1 8 := ⟨tg 722 (by decide +kernel) rfl, tsl (q := (yX8_isEmptyAsRead, 25)) 57 (by decide +kernel), tg 9 (by decide +kernel) rfl, tg 723 (by decide +kernel) rfl, ⟨by decide, by decide, by decide +kernel⟩, by decide, by decide, ⟨_, _, rfl⟩⟩
theorem mk_X8_hasRoomAsRead : mokV MX8_hasRoomAsRead 1 8 := ⟨tg 718 (by decide +kernel) rfl, tsl (q := (yX8_hasRoomAsRead, 25)) 56 (by decide +kernel), tg 9 (by decide +kernel) rfl, tg 719 (by decide +kernel) rfl, ⟨by decide, by decide, by decide +kernel⟩, by decide, by decide, ⟨_, _, rfl⟩⟩
theorem mk_X8_take : mokV MX8_take 1 8 := ⟨tg 713 (by decide +kernel) rfl, tsl (q := (yX8_take, 25)) 55 (by decide +kernel), tg 9 (by decide +kernel) rfl, tg 714 (by decide +kernel) rfl, ⟨by decide, by decide, by decide +kernel⟩, by decide, by decide, ⟨_, _, rfl⟩⟩
theorem mk_X8_readText : mokV MX8_readText 0 8 := ⟨tg 709 (by decide +kernel) rfl, tsl (q := (yX8_readText, 25)) 54 (by decide +kernel), tg 9 (by decide +kernel) rfl, tg 710 (by decide +kernel) rfl, ⟨by decide, by decide, by decide +kernel⟩, by decide, by decide, ⟨_, _, rfl⟩⟩
theorem mk_X8_fault : mokV MX8_fault 0 8 := ⟨tg 704 (by decide +kernel) rfl, tg 705 (by decide +kernel) rfl, tg 9 (by decide +kernel) rfl, tg 706 (by decide +kernel) rfl, ⟨by decide, by decide, by decide +kernel⟩, by decide, by decide, ⟨_, _, rfl⟩⟩
theorem mk_X8_map : mokV MX8_map 0 8 := ⟨tg 725 (by decide +kernel) rfl, tg 726 (by decide +kernel) rfl, tg 9 (by decide +kernel) rfl, tg 727 (by decide +kernel) rfl, ⟨by decide, by decide, by decide +kernel⟩, by decide, by decide, ⟨_, _, rfl⟩⟩
theorem mk_X8_lineOf : mokS MX8_lineOf 2 := ⟨tg 748 (by decide +kernel) rfl, tg 9 (by decide +kernel) rfl, tg 749 (by decide +kernel) rfl, ⟨by decide, by decide, by decide +kernel⟩, by decide⟩
theorem mk_X8_guessOf : mokV MX8_guessOf 3 8 := ⟨tg 752 (by decide +kernel) rfl, tsl (q := (yX8_guessOf, 25)) 61 (by decide +kernel), tg 9 (by decide +kernel) rfl, tg 753 (by decide +kernel) rfl, ⟨by decide, by decide, by decide +kernel⟩, by decide, by decide, ⟨_, _, rfl⟩⟩
theorem mk_X8_sideOf : mokV MX8_sideOf 2 8 := ⟨tg 764 (by decide +kernel) rfl, tsl (q := (yX8_sideOf, 25)) 64 (by decide +kernel), tg 9 (by decide +kernel) rfl, tg 765 (by decide +kernel) rfl, ⟨by decide, by decide, by decide +kernel⟩, by decide, by decide, ⟨_, _, rfl⟩⟩
theorem mk_X8_sides : mokV MX8_sides 1 8 := ⟨tg 772 (by decide +kernel) rfl, tsl (q := (yX8_sides, 25)) 66 (by decide +kernel), tg 9 (by decide +kernel) rfl, tg 773 (by decide +kernel) rfl, ⟨by decide, by decide, by decide +kernel⟩, by decide, by decide, ⟨_, _, rfl⟩⟩
theorem mk_X8_comes : mokV MX8_comes 5 8 := ⟨tg 745 (by decide +kernel) rfl, tsl (q := (yX8_comes, 25)) 60 (by decide +kernel), tg 9 (by decide +kernel) rfl, tg 746 (by decide +kernel) rfl, ⟨by decide, by decide, by decide +kernel⟩, by decide, by decide, ⟨_, _, rfl⟩⟩
theorem mk_X8_fill : mokV MX8_fill 1 8 := ⟨tg 756 (by decide +kernel) rfl, tsl (q := (yX8_fill, 25)) 62 (by decide +kernel), tg 9 (by decide +kernel) rfl, tg 757 (by decide +kernel) rfl, ⟨by decide, by decide, by decide +kernel⟩, by decide, by decide, ⟨_, _, rfl⟩⟩
theorem mk_X8_layOut : mokV MX8_layOut 2 8 := ⟨tg 738 (by decide +kernel) rfl, tsl (q := (yX8_layOut, 25)) 59 (by decide +kernel), tg 9 (by decide +kernel) rfl, tg 739 (by decide +kernel) rfl, ⟨by decide, by decide, by decide +kernel⟩, by decide, by decide, ⟨_, _, rfl⟩⟩
theorem mk_X8_missBy : mokV MX8_missBy 2 8 := ⟨tg 760 (by decide +kernel) rfl, tsl (q := (yX8_missBy, 25)) 63 (by decide +kernel), tg 9 (by decide +kernel) rfl, tg 761 (by decide +kernel) rfl, ⟨by decide, by decide, by decide +kernel⟩, by decide, by decide, ⟨_, _, rfl⟩⟩
theorem mk_X8_blanks : mokV MX8_blanks 0 8 := ⟨tg 734 (by decide +kernel) rfl, tsl (q := (yX8_blanks, 25)) 58 (by decide +kernel), tg 9 (by decide +kernel) rfl, tg 735 (by decide +kernel) rfl, ⟨by decide, by decide, by decide +kernel⟩, by decide, by decide, ⟨_, _, rfl⟩⟩
theorem mk_X8_changeOn : mokS MX8_changeOn 3 := ⟨tg 778 (by decide +kernel) rfl, tg 9 (by decide +kernel) rfl, tg 779 (by decide +kernel) rfl, ⟨by decide, by decide, by decide +kernel⟩, by decide⟩
theorem mk_X8_bestChange : mokV MX8_bestChange 0 8 := ⟨tg 768 (by decide +kernel) rfl, tsl (q := (yX8_bestChange, 25)) 65 (by decide +kernel), tg 9 (by decide +kernel) rfl, tg 769 (by decide +kernel) rfl, ⟨by decide, by decide, by decide +kernel⟩, by decide, by decide, ⟨_, _, rfl⟩⟩
theorem mk_X8_bestShift : mokV MX8_bestShift 0 8 := ⟨tg 782 (by decide +kernel) rfl, tsl (q := (yX8_bestShift, 25)) 67 (by decide +kernel), tg 9 (by decide +kernel) rfl, tg 783 (by decide +kernel) rfl, ⟨by decide, by decide, by decide +kernel⟩, by decide, by decide, ⟨_, _, rfl⟩⟩
theorem mk_X8_layOn : mokV MX8_layOn 2 8 := ⟨tg 790 (by decide +kernel) rfl, tsl (q := (yX8_layOn, 25)) 69 (by decide +kernel), tg 9 (by decide +kernel) rfl, tg 791 (by decide +kernel) rfl, ⟨by decide, by decide, by decide +kernel⟩, by decide, by decide, ⟨_, _, rfl⟩⟩
theorem mk_X8_band : mokV MX8_band 0 8 := ⟨tg 786 (by decide +kernel) rfl, tsl (q := (yX8_band, 25)) 68 (by decide +kernel), tg 9 (by decide +kernel) rfl, tg 787 (by decide +kernel) rfl, ⟨by decide, by decide, by decide +kernel⟩, by decide, by decide, ⟨_, _, rfl⟩⟩
theorem mk_X8_about : mokV MX8_about 1 8 := ⟨tg 729 (by decide +kernel) rfl, tg 730 (by decide +kernel) rfl, tg 9 (by decide +kernel) rfl, tg 731 (by decide +kernel) rfl, ⟨by decide, by decide, by decide +kernel⟩, by decide, by decide, ⟨_, _, rfl⟩⟩
theorem mk_X8_howOften : mokV MX8_howOften 1 8 := ⟨tg 802 (by decide +kernel) rfl, tsl (q := (yX8_howOften, 25)) 71 (by decide +kernel), tg 9 (by decide +kernel) rfl, tg 803 (by decide +kernel) rfl, ⟨by decide, by decide, by decide +kernel⟩, by decide, by decide, ⟨_, _, rfl⟩⟩
theorem mk_X8_shade : mokV MX8_shade 2 8 := ⟨tg 793 (by decide +kernel) rfl, tg 794 (by decide +kernel) rfl, tg 9 (by decide +kernel) rfl, tg 795 (by decide +kernel) rfl, ⟨by decide, by decide, by decide +kernel⟩, by decide, by decide, ⟨_, _, rfl⟩⟩
theorem mk_X8_shadeAt : mokV MX8_shadeAt 1 8 := ⟨tg 814 (by decide +kernel) rfl, tsl (q := (yX8_shadeAt, 25)) 73 (by decide +kernel), tg 9 (by decide +kernel) rfl, tg 815 (by decide +kernel) rfl, ⟨by decide, by decide, by decide +kernel⟩, by decide, by decide, ⟨_, _, rfl⟩⟩
theorem mk_X8_isCell : mokV MX8_isCell 2 8 := ⟨tg 810 (by decide +kernel) rfl, tsl (q := (yX8_isCell, 25)) 72 (by decide +kernel), tg 9 (by decide +kernel) rfl, tg 811 (by decide +kernel) rfl, ⟨by decide, by decide, by decide +kernel⟩, by decide, by decide, ⟨_, _, rfl⟩⟩
theorem mk_X8_cell : mokV MX8_cell 2 8 := ⟨tg 805 (by decide +kernel) rfl, tg 806 (by decide +kernel) rfl, tg 9 (by decide +kernel) rfl, tg 807 (by decide +kernel) rfl, ⟨by decide, by decide, by decide +kernel⟩, by decide, by decide, ⟨_, _, rfl⟩⟩
theorem mk_X8_guess : mokV MX8_guess 2 8 := ⟨tg 817 (by decide +kernel) rfl, tg 818 (by decide +kernel) rfl, tg 9 (by decide +kernel) rfl, tg 819 (by decide +kernel) rfl, ⟨by decide, by decide, by decide +kernel⟩, by decide, by decide, ⟨_, _, rfl⟩⟩
theorem mk_X8_dot : mokV MX8_dot 3 8 := ⟨tg 821 (by decide +kernel) rfl, tg 822 (by decide +kernel) rfl, tg 9 (by decide +kernel) rfl, tg 823 (by decide +kernel) rfl, ⟨by decide, by decide, by decide +kernel⟩, by decide, by decide, ⟨_, _, rfl⟩⟩
theorem mk_X8_note : mokV MX8_note 0 8 := ⟨tg 834 (by decide +kernel) rfl, tsl (q := (yX8_note, 25)) 74 (by decide +kernel), tg 9 (by decide +kernel) rfl, tg 835 (by decide +kernel) rfl, ⟨by decide, by decide, by decide +kernel⟩, by decide, by decide, ⟨_, _, rfl⟩⟩
theorem mk_X8_change : mokV MX8_change 2 8 := ⟨tg 829 (by decide +kernel) rfl, tg 830 (by decide +kernel) rfl, tg 9 (by decide +kernel) rfl, tg 831 (by decide +kernel) rfl, ⟨by decide, by decide, by decide +kernel⟩, by decide, by decide, ⟨_, _, rfl⟩⟩
theorem mk_X8_move : mokV MX8_move 3 8 := ⟨tg 837 (by decide +kernel) rfl, tg 838 (by decide +kernel) rfl, tg 9 (by decide +kernel) rfl, tg 839 (by decide +kernel) rfl, ⟨by decide, by decide, by decide +kernel⟩, by decide, by decide, ⟨_, _, rfl⟩⟩
theorem mk_X8_lay : mokV MX8_lay 1 8 := ⟨tg 841 (by decide +kernel) rfl, tg 842 (by decide +kernel) rfl, tg 9 (by decide +kernel) rfl, tg 843 (by decide +kernel) rfl, ⟨by decide, by decide, by decide +kernel⟩, by decide, by decide, ⟨_, _, rfl⟩⟩
theorem mk_X8_paint : mokV MX8_paint 3 8 := ⟨tg 846 (by decide +kernel) rfl, tg 847 (by decide +kernel) rfl, tg 9 (by decide +kernel) rfl, tg 848 (by decide +kernel) rfl, ⟨by decide, by decide, by decide +kernel⟩, by decide, by decide, ⟨_, _, rfl⟩⟩
theorem mk_X8_shift : mokV MX8_shift 1 8 := ⟨tg 850 (by decide +kernel) rfl, tg 851 (by decide +kernel) rfl, tg 9 (by decide +kernel) rfl, tg 852 (by decide +kernel) rfl, ⟨by decide, by decide, by decide +kernel⟩, by decide, by decide, ⟨_, _, rfl⟩⟩
theorem mk_X8_lose : mokV MX8_lose 1 8 := ⟨tg 854 (by decide +kernel) rfl, tg 855 (by decide +kernel) rfl, tg 9 (by decide +kernel) rfl, tg 856 (by decide +kernel) rfl, ⟨by decide, by decide, by decide +kernel⟩, by decide, by decide, ⟨_, _, rfl⟩⟩
theorem mk_X8_undo : mokV MX8_undo 0 8 := ⟨tg 858 (by decide +kernel) rfl, tg 859 (by decide +kernel) rfl, tg 9 (by decide +kernel) rfl, tg 860 (by decide +kernel) rfl, ⟨by decide, by decide, by decide +kernel⟩, by decide, by decide, ⟨_, _, rfl⟩⟩
theorem mk_X8_miss : mokV MX8_miss 1 8 := ⟨tg 862 (by decide +kernel) rfl, tg 863 (by decide +kernel) rfl, tg 9 (by decide +kernel) rfl, tg 864 (by decide +kernel) rfl, ⟨by decide, by decide, by decide +kernel⟩, by decide, by decide, ⟨_, _, rfl⟩⟩
theorem mk_X8_judged : mokV MX8_judged 3 8 := ⟨tg 877 (by decide +kernel) rfl, tsl (q := (yX8_judged, 25)) 75 (by decide +kernel), tg 9 (by decide +kernel) rfl, tg 878 (by decide +kernel) rfl, ⟨by decide, by decide, by decide +kernel⟩, by decide, by decide, ⟨_, _, rfl⟩⟩
theorem mk_X8_thousands : mokS MX8_thousands 1 := ⟨tg 872 (by decide +kernel) rfl, tg 9 (by decide +kernel) rfl, tg 873 (by decide +kernel) rfl, ⟨by decide, by decide, by decide +kernel⟩, by decide⟩
theorem mk_X8_judge : mokV MX8_judge 2 8 := ⟨tg 867 (by decide +kernel) rfl, tg 868 (by decide +kernel) rfl, tg 9 (by decide +kernel) rfl, tg 869 (by decide +kernel) rfl, ⟨by decide, by decide, by decide +kernel⟩, by decide, by decide, ⟨_, _, rfl⟩⟩
theorem mk_X8_see : mokV MX8_see 3 8 := ⟨tg 880 (by decide +kernel) rfl, tg 881 (by decide +kernel) rfl, tg 9 (by decide +kernel) rfl, tg 882 (by decide +kernel) rfl, ⟨by decide, by decide, by decide +kernel⟩, by decide, by decide, ⟨_, _, rfl⟩⟩
theorem mk_X8_unsee : mokV MX8_unsee 0 8 := ⟨tg 885 (by decide +kernel) rfl, tg 886 (by decide +kernel) rfl, tg 9 (by decide +kernel) rfl, tg 887 (by decide +kernel) rfl, ⟨by decide, by decide, by decide +kernel⟩, by decide, by decide, ⟨_, _, rfl⟩⟩
theorem mk_X8_which : mokV MX8_which 0 8 := ⟨tg 889 (by decide +kernel) rfl, tg 890 (by decide +kernel) rfl, tg 9 (by decide +kernel) rfl, tg 891 (by decide +kernel) rfl, ⟨by decide, by decide, by decide +kernel⟩, by decide, by decide, ⟨_, _, rfl⟩⟩
theorem mk_X8_share : mokV MX8_share 2 8 := ⟨tg 893 (by decide +kernel) rfl, tg 894 (by decide +kernel) rfl, tg 9 (by decide +kernel) rfl, tg 895 (by decide +kernel) rfl, ⟨by decide, by decide, by decide +kernel⟩, by decide, by decide, ⟨_, _, rfl⟩⟩
theorem mk_X8_chance : mokV MX8_chance 3 8 := ⟨tg 906 (by decide +kernel) rfl, tg 907 (by decide +kernel) rfl, tg 9 (by decide +kernel) rfl, tg 908 (by decide +kernel) rfl, ⟨by decide, by decide, by decide +kernel⟩, by decide, by decide, ⟨_, _, rfl⟩⟩
theorem mk_X8_mean : mokV MX8_mean 2 8 := ⟨tg 915 (by decide +kernel) rfl, tg 916 (by decide +kernel) rfl, tg 9 (by decide +kernel) rfl, tg 917 (by decide +kernel) rfl, ⟨by decide, by decide, by decide +kernel⟩, by decide, by decide, ⟨_, _, rfl⟩⟩
theorem mk_X8_seed : mokV MX8_seed 1 8 := ⟨tg 919 (by decide +kernel) rfl, tg 920 (by decide +kernel) rfl, tg 9 (by decide +kernel) rfl, tg 921 (by decide +kernel) rfl, ⟨by decide, by decide, by decide +kernel⟩, by decide, by decide, ⟨_, _, rfl⟩⟩
theorem mk_X8_drawn : mokV MX8_drawn 1 8 := ⟨tg 923 (by decide +kernel) rfl, tg 924 (by decide +kernel) rfl, tg 9 (by decide +kernel) rfl, tg 925 (by decide +kernel) rfl, ⟨by decide, by decide, by decide +kernel⟩, by decide, by decide, ⟨_, _, rfl⟩⟩
theorem mk_X8_keep : mokV MX8_keep 1 8 := ⟨tg 930 (by decide +kernel) rfl, tg 931 (by decide +kernel) rfl, tg 9 (by decide +kernel) rfl, tg 932 (by decide +kernel) rfl, ⟨by decide, by decide, by decide +kernel⟩, by decide, by decide, ⟨_, _, rfl⟩⟩
theorem mk_X8_again : mokV MX8_again 1 8 := ⟨tg 934 (by decide +kernel) rfl, tg 935 (by decide +kernel) rfl, tg 9 (by decide +kernel) rfl, tg 936 (by decide +kernel) rfl, ⟨by decide, by decide, by decide +kernel⟩, by decide, by decide, ⟨_, _, rfl⟩⟩
theorem mk_J6_bitCount_0f7a4 : mokS MJ6_bitCount_0f7a4 1 := ⟨tg 548 (by decide +kernel) rfl, tg 13 (by decide +kernel) rfl, tg 549 (by decide +kernel) rfl, ⟨by decide, by decide, by decide +kernel⟩, by decide⟩
theorem mk_J9_abs_0f7a4 : mokS MJ9_abs_0f7a4 1 := ⟨tg 393 (by decide +kernel) rfl, tg 12 (by decide +kernel) rfl, tg 394 (by decide +kernel) rfl, ⟨by decide, by decide, by decide +kernel⟩, by decide⟩
theorem mk_J9_max_7cf53 : mokS MJ9_max_7cf53 2 := ⟨tg 382 (by decide +kernel) rfl, tg 12 (by decide +kernel) rfl, tg 383 (by decide +kernel) rfl, ⟨by decide, by decide, by decide +kernel⟩, by decide⟩
theorem mk_J7_fill_53178 : mokS MJ7_fill_53178 2 := ⟨tg 230 (by decide +kernel) rfl, tg 10 (by decide +kernel) rfl, tg 231 (by decide +kernel) rfl, ⟨by decide, by decide, by decide +kernel⟩, by decide⟩
end
section
section RS
variable {X : Cx} {r d : Nat} {M : Mth} {pc q : Nat} {loc : Lo} {stk : List AV} {w : Wd} {Q : Option AV → Wd → Prop}
theorem R_cV0i {M' : Mth} {a n i : Nat} {pa : List Nat}  {P : Int32 → Wd → Prop} (hd : decode M.2.1 pc = .ok (.invokevirtual i, 3)) (hl0 : ML M.2.2.2.2 i M'.1) (hm : mokV M' 0 a) (hc : (stk.map cat).sum ≤ 8) (hq : pc + 3 = q) (hC : Ct X r d M' [vR a n pa] w (qI P)) (kk : ∀ (x : Int32) (w' : Wd), P x w' → Wq X r (d + 1) M q loc (vI x :: stk) w' Q) : Wq X r (d + 1) M pc loc (vR a n pa :: stk) w Q :=
  R_callV (As := []) hd hl0 hm hc hq hC (fun rv w' h => by obtain ⟨x, rfl, h⟩ := h; exact kk x w' h)
theorem R_cV0v {M' : Mth} {a n i : Nat} {pa : List Nat}  {P : Wd → Prop} (hd : decode M.2.1 pc = .ok (.invokevirtual i, 3)) (hl0 : ML M.2.2.2.2 i M'.1) (hm : mokV M' 0 a) (hc : (stk.map cat).sum ≤ 8) (hq : pc + 3 = q) (hC : Ct X r d M' [vR a n pa] w (qV P)) (kk : ∀ (w' : Wd), P w' → Wq X r (d + 1) M q loc stk w' Q) : Wq X r (d + 1) M pc loc (vR a n pa :: stk) w Q :=
  R_callV (As := []) hd hl0 hm hc hq hC (fun rv w' h => by obtain ⟨rfl, h⟩ := h; exact kk w' h)
theorem R_cV1i {M' : Mth} {a n i : Nat} {pa : List Nat} {v1 : AV} {P : Int32 → Wd → Prop} (hd : decode M.2.1 pc = .ok (.invokevirtual i, 3)) (hl0 : ML M.2.2.2.2 i M'.1) (hm : mokV M' 1 a) (hc : (stk.map cat).sum ≤ 8) (hq : pc + 3 = q) (hC : Ct X r d M' [vR a n pa, v1] w (qI P)) (kk : ∀ (x : Int32) (w' : Wd), P x w' → Wq X r (d + 1) M q loc (vI x :: stk) w' Q) : Wq X r (d + 1) M pc loc (v1 :: vR a n pa :: stk) w Q :=
  R_callV (As := [v1]) hd hl0 hm hc hq hC (fun rv w' h => by obtain ⟨x, rfl, h⟩ := h; exact kk x w' h)
theorem R_cS1i {M' : Mth} {i : Nat} {v1 : AV} {P : Int32 → Wd → Prop} (hd : decode M.2.1 pc = .ok (.invokestatic i, 3)) (hl0 : ML M.2.2.2.2 i M'.1) (hm : mokS M' 1) (hc : (stk.map cat).sum ≤ 8) (hq : pc + 3 = q) (hC : Ct X r d M' [v1] w (qI P)) (kk : ∀ (x : Int32) (w' : Wd), P x w' → Wq X r (d + 1) M q loc (vI x :: stk) w' Q) : Wq X r (d + 1) M pc loc (v1 :: stk) w Q :=
  R_callS (As := [v1]) hd hl0 hm hc hq hC (fun rv w' h => by obtain ⟨x, rfl, h⟩ := h; exact kk x w' h)
theorem R_cS1l {M' : Mth} {i : Nat} {v1 : AV} {P : Int64 → Wd → Prop} (hd : decode M.2.1 pc = .ok (.invokestatic i, 3)) (hl0 : ML M.2.2.2.2 i M'.1) (hm : mokS M' 1) (hc : (stk.map cat).sum ≤ 8) (hq : pc + 3 = q) (hC : Ct X r d M' [v1] w (qL P)) (kk : ∀ (x : Int64) (w' : Wd), P x w' → Wq X r (d + 1) M q loc (vL x :: stk) w' Q) : Wq X r (d + 1) M pc loc (v1 :: stk) w Q :=
  R_callS (As := [v1]) hd hl0 hm hc hq hC (fun rv w' h => by obtain ⟨x, rfl, h⟩ := h; exact kk x w' h)
theorem R_cV1v {M' : Mth} {a n i : Nat} {pa : List Nat} {v1 : AV} {P : Wd → Prop} (hd : decode M.2.1 pc = .ok (.invokevirtual i, 3)) (hl0 : ML M.2.2.2.2 i M'.1) (hm : mokV M' 1 a) (hc : (stk.map cat).sum ≤ 8) (hq : pc + 3 = q) (hC : Ct X r d M' [vR a n pa, v1] w (qV P)) (kk : ∀ (w' : Wd), P w' → Wq X r (d + 1) M q loc stk w' Q) : Wq X r (d + 1) M pc loc (v1 :: vR a n pa :: stk) w Q :=
  R_callV (As := [v1]) hd hl0 hm hc hq hC (fun rv w' h => by obtain ⟨rfl, h⟩ := h; exact kk w' h)
theorem R_cS1v {M' : Mth} {i : Nat} {v1 : AV} {P : Wd → Prop} (hd : decode M.2.1 pc = .ok (.invokestatic i, 3)) (hl0 : ML M.2.2.2.2 i M'.1) (hm : mokS M' 1) (hc : (stk.map cat).sum ≤ 8) (hq : pc + 3 = q) (hC : Ct X r d M' [v1] w (qV P)) (kk : ∀ (w' : Wd), P w' → Wq X r (d + 1) M q loc stk w' Q) : Wq X r (d + 1) M pc loc (v1 :: stk) w Q :=
  R_callS (As := [v1]) hd hl0 hm hc hq hC (fun rv w' h => by obtain ⟨rfl, h⟩ := h; exact kk w' h)
theorem R_cV2i {M' : Mth} {a n i : Nat} {pa : List Nat} {v1 v2 : AV} {P : Int32 → Wd → Prop} (hd : decode M.2.1 pc = .ok (.invokevirtual i, 3)) (hl0 : ML M.2.2.2.2 i M'.1) (hm : mokV M' 2 a) (hc : (stk.map cat).sum ≤ 8) (hq : pc + 3 = q) (hC : Ct X r d M' [vR a n pa, v1, v2] w (qI P)) (kk : ∀ (x : Int32) (w' : Wd), P x w' → Wq X r (d + 1) M q loc (vI x :: stk) w' Q) : Wq X r (d + 1) M pc loc (v2 :: v1 :: vR a n pa :: stk) w Q :=
  R_callV (As := [v1, v2]) hd hl0 hm hc hq hC (fun rv w' h => by obtain ⟨x, rfl, h⟩ := h; exact kk x w' h)
theorem R_cS2i {M' : Mth} {i : Nat} {v1 v2 : AV} {P : Int32 → Wd → Prop} (hd : decode M.2.1 pc = .ok (.invokestatic i, 3)) (hl0 : ML M.2.2.2.2 i M'.1) (hm : mokS M' 2) (hc : (stk.map cat).sum ≤ 8) (hq : pc + 3 = q) (hC : Ct X r d M' [v1, v2] w (qI P)) (kk : ∀ (x : Int32) (w' : Wd), P x w' → Wq X r (d + 1) M q loc (vI x :: stk) w' Q) : Wq X r (d + 1) M pc loc (v2 :: v1 :: stk) w Q :=
  R_callS (As := [v1, v2]) hd hl0 hm hc hq hC (fun rv w' h => by obtain ⟨x, rfl, h⟩ := h; exact kk x w' h)
theorem R_cS2l {M' : Mth} {i : Nat} {v1 v2 : AV} {P : Int64 → Wd → Prop} (hd : decode M.2.1 pc = .ok (.invokestatic i, 3)) (hl0 : ML M.2.2.2.2 i M'.1) (hm : mokS M' 2) (hc : (stk.map cat).sum ≤ 8) (hq : pc + 3 = q) (hC : Ct X r d M' [v1, v2] w (qL P)) (kk : ∀ (x : Int64) (w' : Wd), P x w' → Wq X r (d + 1) M q loc (vL x :: stk) w' Q) : Wq X r (d + 1) M pc loc (v2 :: v1 :: stk) w Q :=
  R_callS (As := [v1, v2]) hd hl0 hm hc hq hC (fun rv w' h => by obtain ⟨x, rfl, h⟩ := h; exact kk x w' h)
theorem R_cV2v {M' : Mth} {a n i : Nat} {pa : List Nat} {v1 v2 : AV} {P : Wd → Prop} (hd : decode M.2.1 pc = .ok (.invokevirtual i, 3)) (hl0 : ML M.2.2.2.2 i M'.1) (hm : mokV M' 2 a) (hc : (stk.map cat).sum ≤ 8) (hq : pc + 3 = q) (hC : Ct X r d M' [vR a n pa, v1, v2] w (qV P)) (kk : ∀ (w' : Wd), P w' → Wq X r (d + 1) M q loc stk w' Q) : Wq X r (d + 1) M pc loc (v2 :: v1 :: vR a n pa :: stk) w Q :=
  R_callV (As := [v1, v2]) hd hl0 hm hc hq hC (fun rv w' h => by obtain ⟨rfl, h⟩ := h; exact kk w' h)
theorem R_cS2v {M' : Mth} {i : Nat} {v1 v2 : AV} {P : Wd → Prop} (hd : decode M.2.1 pc = .ok (.invokestatic i, 3)) (hl0 : ML M.2.2.2.2 i M'.1) (hm : mokS M' 2) (hc : (stk.map cat).sum ≤ 8) (hq : pc + 3 = q) (hC : Ct X r d M' [v1, v2] w (qV P)) (kk : ∀ (w' : Wd), P w' → Wq X r (d + 1) M q loc stk w' Q) : Wq X r (d + 1) M pc loc (v2 :: v1 :: stk) w Q :=
  R_callS (As := [v1, v2]) hd hl0 hm hc hq hC (fun rv w' h => by obtain ⟨rfl, h⟩ := h; exact kk w' h)
theorem R_cV3i {M' : Mth} {a n i : Nat} {pa : List Nat} {v1 v2 v3 : AV} {P : Int32 → Wd → Prop} (hd : decode M.2.1 pc = .ok (.invokevirtual i, 3)) (hl0 : ML M.2.2.2.2 i M'.1) (hm : mokV M' 3 a) (hc : (stk.map cat).sum ≤ 8) (hq : pc + 3 = q) (hC : Ct X r d M' [vR a n pa, v1, v2, v3] w (qI P)) (kk : ∀ (x : Int32) (w' : Wd), P x w' → Wq X r (d + 1) M q loc (vI x :: stk) w' Q) : Wq X r (d + 1) M pc loc (v3 :: v2 :: v1 :: vR a n pa :: stk) w Q :=
  R_callV (As := [v1, v2, v3]) hd hl0 hm hc hq hC (fun rv w' h => by obtain ⟨x, rfl, h⟩ := h; exact kk x w' h)
theorem R_cS3i {M' : Mth} {i : Nat} {v1 v2 v3 : AV} {P : Int32 → Wd → Prop} (hd : decode M.2.1 pc = .ok (.invokestatic i, 3)) (hl0 : ML M.2.2.2.2 i M'.1) (hm : mokS M' 3) (hc : (stk.map cat).sum ≤ 8) (hq : pc + 3 = q) (hC : Ct X r d M' [v1, v2, v3] w (qI P)) (kk : ∀ (x : Int32) (w' : Wd), P x w' → Wq X r (d + 1) M q loc (vI x :: stk) w' Q) : Wq X r (d + 1) M pc loc (v3 :: v2 :: v1 :: stk) w Q :=
  R_callS (As := [v1, v2, v3]) hd hl0 hm hc hq hC (fun rv w' h => by obtain ⟨x, rfl, h⟩ := h; exact kk x w' h)
theorem R_cS3l {M' : Mth} {i : Nat} {v1 v2 v3 : AV} {P : Int64 → Wd → Prop} (hd : decode M.2.1 pc = .ok (.invokestatic i, 3)) (hl0 : ML M.2.2.2.2 i M'.1) (hm : mokS M' 3) (hc : (stk.map cat).sum ≤ 8) (hq : pc + 3 = q) (hC : Ct X r d M' [v1, v2, v3] w (qL P)) (kk : ∀ (x : Int64) (w' : Wd), P x w' → Wq X r (d + 1) M q loc (vL x :: stk) w' Q) : Wq X r (d + 1) M pc loc (v3 :: v2 :: v1 :: stk) w Q :=
  R_callS (As := [v1, v2, v3]) hd hl0 hm hc hq hC (fun rv w' h => by obtain ⟨x, rfl, h⟩ := h; exact kk x w' h)
theorem R_cV3v {M' : Mth} {a n i : Nat} {pa : List Nat} {v1 v2 v3 : AV} {P : Wd → Prop} (hd : decode M.2.1 pc = .ok (.invokevirtual i, 3)) (hl0 : ML M.2.2.2.2 i M'.1) (hm : mokV M' 3 a) (hc : (stk.map cat).sum ≤ 8) (hq : pc + 3 = q) (hC : Ct X r d M' [vR a n pa, v1, v2, v3] w (qV P)) (kk : ∀ (w' : Wd), P w' → Wq X r (d + 1) M q loc stk w' Q) : Wq X r (d + 1) M pc loc (v3 :: v2 :: v1 :: vR a n pa :: stk) w Q :=
  R_callV (As := [v1, v2, v3]) hd hl0 hm hc hq hC (fun rv w' h => by obtain ⟨rfl, h⟩ := h; exact kk w' h)
theorem R_cS3v {M' : Mth} {i : Nat} {v1 v2 v3 : AV} {P : Wd → Prop} (hd : decode M.2.1 pc = .ok (.invokestatic i, 3)) (hl0 : ML M.2.2.2.2 i M'.1) (hm : mokS M' 3) (hc : (stk.map cat).sum ≤ 8) (hq : pc + 3 = q) (hC : Ct X r d M' [v1, v2, v3] w (qV P)) (kk : ∀ (w' : Wd), P w' → Wq X r (d + 1) M q loc stk w' Q) : Wq X r (d + 1) M pc loc (v3 :: v2 :: v1 :: stk) w Q :=
  R_callS (As := [v1, v2, v3]) hd hl0 hm hc hq hC (fun rv w' h => by obtain ⟨rfl, h⟩ := h; exact kk w' h)
theorem R_cV4i {M' : Mth} {a n i : Nat} {pa : List Nat} {v1 v2 v3 v4 : AV} {P : Int32 → Wd → Prop} (hd : decode M.2.1 pc = .ok (.invokevirtual i, 3)) (hl0 : ML M.2.2.2.2 i M'.1) (hm : mokV M' 4 a) (hc : (stk.map cat).sum ≤ 8) (hq : pc + 3 = q) (hC : Ct X r d M' [vR a n pa, v1, v2, v3, v4] w (qI P)) (kk : ∀ (x : Int32) (w' : Wd), P x w' → Wq X r (d + 1) M q loc (vI x :: stk) w' Q) : Wq X r (d + 1) M pc loc (v4 :: v3 :: v2 :: v1 :: vR a n pa :: stk) w Q :=
  R_callV (As := [v1, v2, v3, v4]) hd hl0 hm hc hq hC (fun rv w' h => by obtain ⟨x, rfl, h⟩ := h; exact kk x w' h)
theorem R_cS4i {M' : Mth} {i : Nat} {v1 v2 v3 v4 : AV} {P : Int32 → Wd → Prop} (hd : decode M.2.1 pc = .ok (.invokestatic i, 3)) (hl0 : ML M.2.2.2.2 i M'.1) (hm : mokS M' 4) (hc : (stk.map cat).sum ≤ 8) (hq : pc + 3 = q) (hC : Ct X r d M' [v1, v2, v3, v4] w (qI P)) (kk : ∀ (x : Int32) (w' : Wd), P x w' → Wq X r (d + 1) M q loc (vI x :: stk) w' Q) : Wq X r (d + 1) M pc loc (v4 :: v3 :: v2 :: v1 :: stk) w Q :=
  R_callS (As := [v1, v2, v3, v4]) hd hl0 hm hc hq hC (fun rv w' h => by obtain ⟨x, rfl, h⟩ := h; exact kk x w' h)
theorem R_cS4l {M' : Mth} {i : Nat} {v1 v2 v3 v4 : AV} {P : Int64 → Wd → Prop} (hd : decode M.2.1 pc = .ok (.invokestatic i, 3)) (hl0 : ML M.2.2.2.2 i M'.1) (hm : mokS M' 4) (hc : (stk.map cat).sum ≤ 8) (hq : pc + 3 = q) (hC : Ct X r d M' [v1, v2, v3, v4] w (qL P)) (kk : ∀ (x : Int64) (w' : Wd), P x w' → Wq X r (d + 1) M q loc (vL x :: stk) w' Q) : Wq X r (d + 1) M pc loc (v4 :: v3 :: v2 :: v1 :: stk) w Q :=
  R_callS (As := [v1, v2, v3, v4]) hd hl0 hm hc hq hC (fun rv w' h => by obtain ⟨x, rfl, h⟩ := h; exact kk x w' h)
theorem R_cV4v {M' : Mth} {a n i : Nat} {pa : List Nat} {v1 v2 v3 v4 : AV} {P : Wd → Prop} (hd : decode M.2.1 pc = .ok (.invokevirtual i, 3)) (hl0 : ML M.2.2.2.2 i M'.1) (hm : mokV M' 4 a) (hc : (stk.map cat).sum ≤ 8) (hq : pc + 3 = q) (hC : Ct X r d M' [vR a n pa, v1, v2, v3, v4] w (qV P)) (kk : ∀ (w' : Wd), P w' → Wq X r (d + 1) M q loc stk w' Q) : Wq X r (d + 1) M pc loc (v4 :: v3 :: v2 :: v1 :: vR a n pa :: stk) w Q :=
  R_callV (As := [v1, v2, v3, v4]) hd hl0 hm hc hq hC (fun rv w' h => by obtain ⟨rfl, h⟩ := h; exact kk w' h)
theorem R_cS4v {M' : Mth} {i : Nat} {v1 v2 v3 v4 : AV} {P : Wd → Prop} (hd : decode M.2.1 pc = .ok (.invokestatic i, 3)) (hl0 : ML M.2.2.2.2 i M'.1) (hm : mokS M' 4) (hc : (stk.map cat).sum ≤ 8) (hq : pc + 3 = q) (hC : Ct X r d M' [v1, v2, v3, v4] w (qV P)) (kk : ∀ (w' : Wd), P w' → Wq X r (d + 1) M q loc stk w' Q) : Wq X r (d + 1) M pc loc (v4 :: v3 :: v2 :: v1 :: stk) w Q :=
  R_callS (As := [v1, v2, v3, v4]) hd hl0 hm hc hq hC (fun rv w' h => by obtain ⟨rfl, h⟩ := h; exact kk w' h)
theorem R_cV5i {M' : Mth} {a n i : Nat} {pa : List Nat} {v1 v2 v3 v4 v5 : AV} {P : Int32 → Wd → Prop} (hd : decode M.2.1 pc = .ok (.invokevirtual i, 3)) (hl0 : ML M.2.2.2.2 i M'.1) (hm : mokV M' 5 a) (hc : (stk.map cat).sum ≤ 8) (hq : pc + 3 = q) (hC : Ct X r d M' [vR a n pa, v1, v2, v3, v4, v5] w (qI P)) (kk : ∀ (x : Int32) (w' : Wd), P x w' → Wq X r (d + 1) M q loc (vI x :: stk) w' Q) : Wq X r (d + 1) M pc loc (v5 :: v4 :: v3 :: v2 :: v1 :: vR a n pa :: stk) w Q :=
  R_callV (As := [v1, v2, v3, v4, v5]) hd hl0 hm hc hq hC (fun rv w' h => by obtain ⟨x, rfl, h⟩ := h; exact kk x w' h)
theorem R_cS5i {M' : Mth} {i : Nat} {v1 v2 v3 v4 v5 : AV} {P : Int32 → Wd → Prop} (hd : decode M.2.1 pc = .ok (.invokestatic i, 3)) (hl0 : ML M.2.2.2.2 i M'.1) (hm : mokS M' 5) (hc : (stk.map cat).sum ≤ 8) (hq : pc + 3 = q) (hC : Ct X r d M' [v1, v2, v3, v4, v5] w (qI P)) (kk : ∀ (x : Int32) (w' : Wd), P x w' → Wq X r (d + 1) M q loc (vI x :: stk) w' Q) : Wq X r (d + 1) M pc loc (v5 :: v4 :: v3 :: v2 :: v1 :: stk) w Q :=
  R_callS (As := [v1, v2, v3, v4, v5]) hd hl0 hm hc hq hC (fun rv w' h => by obtain ⟨x, rfl, h⟩ := h; exact kk x w' h)
theorem R_cS5l {M' : Mth} {i : Nat} {v1 v2 v3 v4 v5 : AV} {P : Int64 → Wd → Prop} (hd : decode M.2.1 pc = .ok (.invokestatic i, 3)) (hl0 : ML M.2.2.2.2 i M'.1) (hm : mokS M' 5) (hc : (stk.map cat).sum ≤ 8) (hq : pc + 3 = q) (hC : Ct X r d M' [v1, v2, v3, v4, v5] w (qL P)) (kk : ∀ (x : Int64) (w' : Wd), P x w' → Wq X r (d + 1) M q loc (vL x :: stk) w' Q) : Wq X r (d + 1) M pc loc (v5 :: v4 :: v3 :: v2 :: v1 :: stk) w Q :=
  R_callS (As := [v1, v2, v3, v4, v5]) hd hl0 hm hc hq hC (fun rv w' h => by obtain ⟨x, rfl, h⟩ := h; exact kk x w' h)
theorem R_cV5v {M' : Mth} {a n i : Nat} {pa : List Nat} {v1 v2 v3 v4 v5 : AV} {P : Wd → Prop} (hd : decode M.2.1 pc = .ok (.invokevirtual i, 3)) (hl0 : ML M.2.2.2.2 i M'.1) (hm : mokV M' 5 a) (hc : (stk.map cat).sum ≤ 8) (hq : pc + 3 = q) (hC : Ct X r d M' [vR a n pa, v1, v2, v3, v4, v5] w (qV P)) (kk : ∀ (w' : Wd), P w' → Wq X r (d + 1) M q loc stk w' Q) : Wq X r (d + 1) M pc loc (v5 :: v4 :: v3 :: v2 :: v1 :: vR a n pa :: stk) w Q :=
  R_callV (As := [v1, v2, v3, v4, v5]) hd hl0 hm hc hq hC (fun rv w' h => by obtain ⟨rfl, h⟩ := h; exact kk w' h)
theorem R_cS5v {M' : Mth} {i : Nat} {v1 v2 v3 v4 v5 : AV} {P : Wd → Prop} (hd : decode M.2.1 pc = .ok (.invokestatic i, 3)) (hl0 : ML M.2.2.2.2 i M'.1) (hm : mokS M' 5) (hc : (stk.map cat).sum ≤ 8) (hq : pc + 3 = q) (hC : Ct X r d M' [v1, v2, v3, v4, v5] w (qV P)) (kk : ∀ (w' : Wd), P w' → Wq X r (d + 1) M q loc stk w' Q) : Wq X r (d + 1) M pc loc (v5 :: v4 :: v3 :: v2 :: v1 :: stk) w Q :=
  R_callS (As := [v1, v2, v3, v4, v5]) hd hl0 hm hc hq hC (fun rv w' h => by obtain ⟨rfl, h⟩ := h; exact kk w' h)
/-! over natural numbers -/
theorem R_getI' {i a n k : Nat} {pa : List Nat} {f : Bool} {t : FieldType} {v : Int32} (hd : decode M.2.1 pc = .ok (.getfield i, 3)) (hf : FL M.2.2.2.2 i a k f t) (hk : (fk a k).1 = 100) (hv : w.1 pa k = v) (hq : pc + 3 = q) (kk : Wq X r d M q loc (vI v :: stk) w Q) : Wq X r d M pc loc (vR a n pa :: stk) w Q := R_getI hd hf hk hq (by rw [hv]; exact kk)
theorem R_iald' {n b : Nat} {i v : Int32} {pa : List Nat} (hd : decode M.2.1 pc = .ok (.iaload, 1)) (hi : i = nI b) (hb : b < n) (hn : n < 2 ^ 31) (hv : w.1 pa b = v) (hq : pc + 1 = q) (kk : Wq X r d M q loc (vI v :: stk) w Q) : Wq X r d M pc loc (vI i :: vR 9 n pa :: stk) w Q := R_iald hd hi hb hn hq (by rw [hv]; exact kk)
theorem R_zald' {n b : Nat} {i v : Int32} {pa : List Nat} (hd : decode M.2.1 pc = .ok (.baload, 1)) (hi : i = nI b) (hb : b < n) (hn : n < 2 ^ 31) (hv : w.1 pa b = v) (hq : pc + 1 = q) (kk : Wq X r d M q loc (vI v :: stk) w Q) : Wq X r d M pc loc (vI i :: vR 10 n pa :: stk) w Q := R_zald hd hi hb hn hq (by rw [hv]; exact kk)
theorem R_val {x y : Int32} (e : x = y) (k : Wq X r d M pc loc (vI y :: stk) w Q) : Wq X r d M pc loc (vI x :: stk) w Q := by rw [e]; exact k
theorem R_val2 {v : AV} {x y : Int32} (e : x = y) (k : Wq X r d M pc loc (v :: vI y :: stk) w Q) : Wq X r d M pc loc (v :: vI x :: stk) w Q := by rw [e]; exact k
theorem R_iaddN {a b : Nat} (hd : decode M.2.1 pc = .ok (.iadd, 1)) (hq : pc + 1 = q) (k : Wq X r d M q loc (vI (nI (a + b)) :: stk) w Q) : Wq X r d M pc loc (vI (nI b) :: vI (nI a) :: stk) w Q := R_iadd hd hq (by rw [nI_add]; exact k)
theorem R_isubN {a b : Nat} (h : b ≤ a) (hd : decode M.2.1 pc = .ok (.isub, 1)) (hq : pc + 1 = q) (k : Wq X r d M q loc (vI (nI (a - b)) :: stk) w Q) : Wq X r d M pc loc (vI (nI b) :: vI (nI a) :: stk) w Q := R_isub hd hq (by rw [pk_sub h]; exact k)
theorem R_imulN {a b : Nat} (hd : decode M.2.1 pc = .ok (.imul, 1)) (hq : pc + 1 = q) (k : Wq X r d M q loc (vI (nI (a * b)) :: stk) w Q) : Wq X r d M pc loc (vI (nI b) :: vI (nI a) :: stk) w Q := R_imul hd hq (by rw [pk_mul]; exact k)
theorem R_idivN {a b : Nat} (ha : a < 2 ^ 31) (h0 : 0 < b) (hb : b < 2 ^ 31) (hd : decode M.2.1 pc = .ok (.idiv, 1)) (hq : pc + 1 = q) (k : Wq X r d M q loc (vI (nI (a / b)) :: stk) w Q) : Wq X r d M pc loc (vI (nI b) :: vI (nI a) :: stk) w Q := R_idiv hd (nI_ne0 h0 hb) hq (by rw [pk_div ha h0 hb]; exact k)
theorem R_iremN {a b : Nat} (ha : a < 2 ^ 31) (h0 : 0 < b) (hb : b < 2 ^ 31) (hd : decode M.2.1 pc = .ok (.irem, 1)) (hq : pc + 1 = q) (k : Wq X r d M q loc (vI (nI (a % b)) :: stk) w Q) : Wq X r d M pc loc (vI (nI b) :: vI (nI a) :: stk) w Q := R_irem hd (nI_ne0 h0 hb) hq (by rw [pk_rem ha h0 hb]; exact k)
theorem R_iincN {i a : Nat} {loc' : Lo} (hd : decode M.2.1 pc = .ok (.iinc i 1, 3)) (hg : lgt loc i = some (vI (nI a))) (hn : i < M.2.2.1) (hl' : st1 loc i (vI (nI (a + 1))) = loc') (hq : pc + 3 = q) (k : Wq X r d M q loc' stk w Q) : Wq X r d M pc loc stk w Q := R_iinc hd hg (nI_1 a) hn hl' hq k
theorem R_icmp_eqN {a b : Nat} (ha : a < 2 ^ 31) (hb : b < 2 ^ 31) {off : Int} {tgt : Nat} (hd : decode M.2.1 pc = .ok (.if_icmp .eq off, 3)) (ht : (pc : Int) + off = (tgt : Int)) (hq : pc + 3 = q) (kt : a = b → Wq X r d M tgt loc stk w Q) (kf : a ≠ b → Wq X r d M q loc stk w Q) : Wq X r d M pc loc (vI (nI b) :: vI (nI a) :: stk) w Q := R_icmp_eq hd ht hq (fun g => kt ((nI_eq ha hb).mp g)) (fun g => kf (fun h => g ((nI_eq ha hb).mpr h)))
theorem R_icmp_neN {a b : Nat} (ha : a < 2 ^ 31) (hb : b < 2 ^ 31) {off : Int} {tgt : Nat} (hd : decode M.2.1 pc = .ok (.if_icmp .ne off, 3)) (ht : (pc : Int) + off = (tgt : Int)) (hq : pc + 3 = q) (kt : a ≠ b → Wq X r d M tgt loc stk w Q) (kf : a = b → Wq X r d M q loc stk w Q) : Wq X r d M pc loc (vI (nI b) :: vI (nI a) :: stk) w Q := R_icmp_ne hd ht hq (fun g => kt (fun h => g ((nI_eq ha hb).mpr h))) (fun g => kf ((nI_eq ha hb).mp g))
theorem R_icmp_ltN {a b : Nat} (ha : a < 2 ^ 31) (hb : b < 2 ^ 31) {off : Int} {tgt : Nat} (hd : decode M.2.1 pc = .ok (.if_icmp .lt off, 3)) (ht : (pc : Int) + off = (tgt : Int)) (hq : pc + 3 = q) (kt : a < b → Wq X r d M tgt loc stk w Q) (kf : b ≤ a → Wq X r d M q loc stk w Q) : Wq X r d M pc loc (vI (nI b) :: vI (nI a) :: stk) w Q := R_icmp_lt hd ht hq (fun g => kt ((nI_ltI ha hb).mp g)) (fun g => kf (Nat.not_lt.mp fun h => g ((nI_ltI ha hb).mpr h)))
theorem R_icmp_geN {a b : Nat} (ha : a < 2 ^ 31) (hb : b < 2 ^ 31) {off : Int} {tgt : Nat} (hd : decode M.2.1 pc = .ok (.if_icmp .ge off, 3)) (ht : (pc : Int) + off = (tgt : Int)) (hq : pc + 3 = q) (kt : b ≤ a → Wq X r d M tgt loc stk w Q) (kf : a < b → Wq X r d M q loc stk w Q) : Wq X r d M pc loc (vI (nI b) :: vI (nI a) :: stk) w Q := R_icmp_ge hd ht hq (fun g => kt ((nI_leI hb ha).mp g)) (fun g => kf (Nat.not_le.mp fun h => g ((nI_leI hb ha).mpr h)))
theorem R_icmp_gtN {a b : Nat} (ha : a < 2 ^ 31) (hb : b < 2 ^ 31) {off : Int} {tgt : Nat} (hd : decode M.2.1 pc = .ok (.if_icmp .gt off, 3)) (ht : (pc : Int) + off = (tgt : Int)) (hq : pc + 3 = q) (kt : b < a → Wq X r d M tgt loc stk w Q) (kf : a ≤ b → Wq X r d M q loc stk w Q) : Wq X r d M pc loc (vI (nI b) :: vI (nI a) :: stk) w Q := R_icmp_gt hd ht hq (fun g => kt ((nI_ltI hb ha).mp g)) (fun g => kf (Nat.not_lt.mp fun h => g ((nI_ltI hb ha).mpr h)))
theorem R_icmp_leN {a b : Nat} (ha : a < 2 ^ 31) (hb : b < 2 ^ 31) {off : Int} {tgt : Nat} (hd : decode M.2.1 pc = .ok (.if_icmp .le off, 3)) (ht : (pc : Int) + off = (tgt : Int)) (hq : pc + 3 = q) (kt : a ≤ b → Wq X r d M tgt loc stk w Q) (kf : b < a → Wq X r d M q loc stk w Q) : Wq X r d M pc loc (vI (nI b) :: vI (nI a) :: stk) w Q := R_icmp_le hd ht hq (fun g => kt ((nI_leI ha hb).mp g)) (fun g => kf (Nat.not_le.mp fun h => g ((nI_leI ha hb).mpr h)))
theorem R_if_eqN {a : Nat} (ha : a < 2 ^ 31) {off : Int} {tgt : Nat} (hd : decode M.2.1 pc = .ok (.ifCond .eq off, 3)) (ht : (pc : Int) + off = (tgt : Int)) (hq : pc + 3 = q) (kt : a = 0 → Wq X r d M tgt loc stk w Q) (kf : a ≠ 0 → Wq X r d M q loc stk w Q) : Wq X r d M pc loc (vI (nI a) :: stk) w Q := R_if_eq hd ht hq (fun g => kt ((nI_eq ha (by decide)).mp g)) (fun g => kf (fun h => g ((nI_eq ha (by decide)).mpr h)))
theorem R_if_neN {a : Nat} (ha : a < 2 ^ 31) {off : Int} {tgt : Nat} (hd : decode M.2.1 pc = .ok (.ifCond .ne off, 3)) (ht : (pc : Int) + off = (tgt : Int)) (hq : pc + 3 = q) (kt : a ≠ 0 → Wq X r d M tgt loc stk w Q) (kf : a = 0 → Wq X r d M q loc stk w Q) : Wq X r d M pc loc (vI (nI a) :: stk) w Q := R_if_ne hd ht hq (fun g => kt (fun h => g ((nI_eq ha (by decide)).mpr h))) (fun g => kf ((nI_eq ha (by decide)).mp g))
/-- an answer that is true or false -/
def bI (c : Prop) [Decidable c] : Int32 := if c then 1 else 0
theorem bI_t {c : Prop} [Decidable c] (h : c) : bI c = 1 := if_pos h
theorem bI_f {c : Prop} [Decidable c] (h : ¬ c) : bI c = 0 := if_neg h
theorem bI_b (c : Prop) [Decidable c] : bI c &&& 1 = bI c := by
  unfold bI
  split <;> decide
theorem bI_0 (c : Prop) [Decidable c] : bI c = 0 ↔ ¬ c := by
  unfold bI
  split
  · simp [*]
  · simp [*]
theorem R_if_eqB {c : Prop} [Decidable c] {off : Int} {tgt : Nat} (hd : decode M.2.1 pc = .ok (.ifCond .eq off, 3)) (ht : (pc : Int) + off = (tgt : Int)) (hq : pc + 3 = q) (kt : ¬ c → Wq X r d M tgt loc stk w Q) (kf : c → Wq X r d M q loc stk w Q) : Wq X r d M pc loc (vI (bI c) :: stk) w Q := R_if_eq hd ht hq (fun g => kt ((bI_0 c).mp g)) (fun g => kf (Classical.byContradiction fun h => g ((bI_0 c).mpr h)))
theorem R_if_neB {c : Prop} [Decidable c] {off : Int} {tgt : Nat} (hd : decode M.2.1 pc = .ok (.ifCond .ne off, 3)) (ht : (pc : Int) + off = (tgt : Int)) (hq : pc + 3 = q) (kt : c → Wq X r d M tgt loc stk w Q) (kf : ¬ c → Wq X r d M q loc stk w Q) : Wq X r d M pc loc (vI (bI c) :: stk) w Q := R_if_ne hd ht hq (fun g => kt (Classical.byContradiction fun h => g ((bI_0 c).mpr h))) (fun g => kf ((bI_0 c).mp g))
theorem uI_same (w : Wd) (p : List Nat) (k : Nat) (v : Int32) : (uI w p k v).1 p k = v := by simp [uI, uA, upd]
theorem uI_ne {w : Wd} {p : List Nat} {k j : Nat} {v : Int32} (h : j ≠ k) : (uI w p k v).1 p j = w.1 p j := by simp [uI, uA, upd, h]
theorem uI_nep {w : Wd} {p q : List Nat} {k j : Nat} {v : Int32} (h : q ≠ p) : (uI w p k v).1 q j = w.1 q j := by simp [uI, uA, h]
theorem uI_2 (w : Wd) (p : List Nat) (k : Nat) (v : Int32) : (uI w p k v).2 = w.2 := rfl
theorem uA_2 (w : Wd) (p : List Nat) (f : Nat → Int32) : (uA w p f).2 = w.2 := rfl
theorem uL_1 (w : Wd) (p : List Nat) (v : Int64) : (uL w p v).1 = w.1 := rfl
theorem uL_same (w : Wd) (p : List Nat) (v : Int64) : (uL w p v).2 p = v := by simp [uL]
end RS
end
