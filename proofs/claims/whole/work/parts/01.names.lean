-- ===== PART A: goes FIRST, ahead of the names: the tables' words, and 'selects' of the private methods out of them =====
/-- a private method of a class that the tables say can be made, by its rows of tables_1 -/
def lw_okq (q : MethodName × Nat) : Prop := (q.1.cls ≠ "java/lang/invoke/MethodHandle" ∧ q.1.cls ≠ "java/lang/invoke/VarHandle") ∧ Cond.instantiable q.1.cls q.2 ∈ tables_1 ∧ Cond.privateMethod q.1 ∈ tables_1 ∧ Cond.instanceMethod q.1 ∈ tables_1
theorem lw_p0 : lw_okq (⟨"ThirstScales$Reader", "beginAnew", "()V"⟩, 11) := ⟨⟨by decide +kernel, by decide +kernel⟩, List.mem_of_getElem? (i := 21) (by decide +kernel), List.mem_of_getElem? (i := 169) (by decide +kernel), List.mem_of_getElem? (i := 170) (by decide +kernel)⟩
theorem lw_p1 : lw_okq (⟨"ThirstScales$Reader", "readToken", "()V"⟩, 11) := ⟨⟨by decide +kernel, by decide +kernel⟩, List.mem_of_getElem? (i := 21) (by decide +kernel), List.mem_of_getElem? (i := 174) (by decide +kernel), List.mem_of_getElem? (i := 175) (by decide +kernel)⟩
theorem lw_p2 : lw_okq (⟨"ThirstScales$Reader", "readDigits", "()V"⟩, 11) := ⟨⟨by decide +kernel, by decide +kernel⟩, List.mem_of_getElem? (i := 21) (by decide +kernel), List.mem_of_getElem? (i := 186) (by decide +kernel), List.mem_of_getElem? (i := 187) (by decide +kernel)⟩
theorem lw_p3 : lw_okq (⟨"ThirstScales$Reader", "readLetters", "()V"⟩, 11) := ⟨⟨by decide +kernel, by decide +kernel⟩, List.mem_of_getElem? (i := 21) (by decide +kernel), List.mem_of_getElem? (i := 193) (by decide +kernel), List.mem_of_getElem? (i := 194) (by decide +kernel)⟩
theorem lw_p4 : lw_okq (⟨"ThirstScales$Reader", "isWord", "(Ljava/lang/String;)Z"⟩, 11) := ⟨⟨by decide +kernel, by decide +kernel⟩, List.mem_of_getElem? (i := 21) (by decide +kernel), List.mem_of_getElem? (i := 198) (by decide +kernel), List.mem_of_getElem? (i := 199) (by decide +kernel)⟩
theorem lw_p5 : lw_okq (⟨"ThirstScales$Reader", "readsLoad", "()Z"⟩, 11) := ⟨⟨by decide +kernel, by decide +kernel⟩, List.mem_of_getElem? (i := 21) (by decide +kernel), List.mem_of_getElem? (i := 252) (by decide +kernel), List.mem_of_getElem? (i := 253) (by decide +kernel)⟩
theorem lw_p6 : lw_okq (⟨"ThirstScales$Reader", "readsNumber", "(II)Z"⟩, 11) := ⟨⟨by decide +kernel, by decide +kernel⟩, List.mem_of_getElem? (i := 21) (by decide +kernel), List.mem_of_getElem? (i := 256) (by decide +kernel), List.mem_of_getElem? (i := 257) (by decide +kernel)⟩
theorem lw_p7 : lw_okq (⟨"ThirstScales$Reader", "readsEndOfItem", "()Z"⟩, 11) := ⟨⟨by decide +kernel, by decide +kernel⟩, List.mem_of_getElem? (i := 21) (by decide +kernel), List.mem_of_getElem? (i := 261) (by decide +kernel), List.mem_of_getElem? (i := 262) (by decide +kernel)⟩
theorem lw_p8 : lw_okq (⟨"ThirstScales$Reader", "readsTaster", "()Z"⟩, 11) := ⟨⟨by decide +kernel, by decide +kernel⟩, List.mem_of_getElem? (i := 21) (by decide +kernel), List.mem_of_getElem? (i := 265) (by decide +kernel), List.mem_of_getElem? (i := 266) (by decide +kernel)⟩
theorem lw_p9 : lw_okq (⟨"ThirstScales$Reader", "readsHeat", "()Z"⟩, 11) := ⟨⟨by decide +kernel, by decide +kernel⟩, List.mem_of_getElem? (i := 21) (by decide +kernel), List.mem_of_getElem? (i := 278) (by decide +kernel), List.mem_of_getElem? (i := 279) (by decide +kernel)⟩
theorem lw_p10 : lw_okq (⟨"ThirstScales", "isLoad", "(I)Z"⟩, 10) := ⟨⟨by decide +kernel, by decide +kernel⟩, List.mem_of_getElem? (i := 13) (by decide +kernel), List.mem_of_getElem? (i := 305) (by decide +kernel), List.mem_of_getElem? (i := 306) (by decide +kernel)⟩
theorem lw_p11 : lw_okq (⟨"ThirstScales", "isTaster", "(I)Z"⟩, 10) := ⟨⟨by decide +kernel, by decide +kernel⟩, List.mem_of_getElem? (i := 13) (by decide +kernel), List.mem_of_getElem? (i := 318) (by decide +kernel), List.mem_of_getElem? (i := 319) (by decide +kernel)⟩
theorem lw_p12 : lw_okq (⟨"ThirstScales", "facts", "()I"⟩, 10) := ⟨⟨by decide +kernel, by decide +kernel⟩, List.mem_of_getElem? (i := 13) (by decide +kernel), List.mem_of_getElem? (i := 341) (by decide +kernel), List.mem_of_getElem? (i := 342) (by decide +kernel)⟩
theorem lw_p13 : lw_okq (⟨"ThirstScales", "thirst", "(II)I"⟩, 10) := ⟨⟨by decide +kernel, by decide +kernel⟩, List.mem_of_getElem? (i := 13) (by decide +kernel), List.mem_of_getElem? (i := 345) (by decide +kernel), List.mem_of_getElem? (i := 346) (by decide +kernel)⟩
theorem lw_p14 : lw_okq (⟨"ThirstScales", "addFact", "(IIII)V"⟩, 10) := ⟨⟨by decide +kernel, by decide +kernel⟩, List.mem_of_getElem? (i := 13) (by decide +kernel), List.mem_of_getElem? (i := 349) (by decide +kernel), List.mem_of_getElem? (i := 350) (by decide +kernel)⟩
theorem lw_p15 : lw_okq (⟨"ThirstScales", "addLick", "(I)V"⟩, 10) := ⟨⟨by decide +kernel, by decide +kernel⟩, List.mem_of_getElem? (i := 13) (by decide +kernel), List.mem_of_getElem? (i := 353) (by decide +kernel), List.mem_of_getElem? (i := 354) (by decide +kernel)⟩
def lw_privs_1 : List (MethodName × Nat) := [(⟨"ThirstScales$Reader", "beginAnew", "()V"⟩, 11), (⟨"ThirstScales$Reader", "readToken", "()V"⟩, 11), (⟨"ThirstScales$Reader", "readDigits", "()V"⟩, 11), (⟨"ThirstScales$Reader", "readLetters", "()V"⟩, 11), (⟨"ThirstScales$Reader", "isWord", "(Ljava/lang/String;)Z"⟩, 11), (⟨"ThirstScales$Reader", "readsLoad", "()Z"⟩, 11), (⟨"ThirstScales$Reader", "readsNumber", "(II)Z"⟩, 11), (⟨"ThirstScales$Reader", "readsEndOfItem", "()Z"⟩, 11), (⟨"ThirstScales$Reader", "readsTaster", "()Z"⟩, 11), (⟨"ThirstScales$Reader", "readsHeat", "()Z"⟩, 11), (⟨"ThirstScales", "isLoad", "(I)Z"⟩, 10), (⟨"ThirstScales", "isTaster", "(I)Z"⟩, 10), (⟨"ThirstScales", "facts", "()I"⟩, 10), (⟨"ThirstScales", "thirst", "(II)I"⟩, 10), (⟨"ThirstScales", "addFact", "(IIII)V"⟩, 10), (⟨"ThirstScales", "addLick", "(I)V"⟩, 10)]
theorem lw_r1 : ∀ q ∈ lw_privs_1, lw_okq q := List.forall_mem_cons.mpr ⟨lw_p0, List.forall_mem_cons.mpr ⟨lw_p1, List.forall_mem_cons.mpr ⟨lw_p2, List.forall_mem_cons.mpr ⟨lw_p3, List.forall_mem_cons.mpr ⟨lw_p4, List.forall_mem_cons.mpr ⟨lw_p5, List.forall_mem_cons.mpr ⟨lw_p6, List.forall_mem_cons.mpr ⟨lw_p7, List.forall_mem_cons.mpr ⟨lw_p8, List.forall_mem_cons.mpr ⟨lw_p9, List.forall_mem_cons.mpr ⟨lw_p10, List.forall_mem_cons.mpr ⟨lw_p11, List.forall_mem_cons.mpr ⟨lw_p12, List.forall_mem_cons.mpr ⟨lw_p13, List.forall_mem_cons.mpr ⟨lw_p14, List.forall_mem_cons.mpr ⟨lw_p15, fun _ h => absurd h List.not_mem_nil⟩⟩⟩⟩⟩⟩⟩⟩⟩⟩⟩⟩⟩⟩⟩⟩
theorem lw_p16 : lw_okq (⟨"ThirstScales", "fact", "(II)I"⟩, 10) := ⟨⟨by decide +kernel, by decide +kernel⟩, List.mem_of_getElem? (i := 13) (by decide +kernel), List.mem_of_getElem? (i := 384) (by decide +kernel), List.mem_of_getElem? (i := 385) (by decide +kernel)⟩
theorem lw_p17 : lw_okq (⟨"ThirstScales", "greatestOf", "(I)I"⟩, 10) := ⟨⟨by decide +kernel, by decide +kernel⟩, List.mem_of_getElem? (i := 13) (by decide +kernel), List.mem_of_getElem? (i := 397) (by decide +kernel), List.mem_of_getElem? (i := 398) (by decide +kernel)⟩
theorem lw_p18 : lw_okq (⟨"ThirstScales", "canWeigh", "(II)Z"⟩, 10) := ⟨⟨by decide +kernel, by decide +kernel⟩, List.mem_of_getElem? (i := 13) (by decide +kernel), List.mem_of_getElem? (i := 401) (by decide +kernel), List.mem_of_getElem? (i := 402) (by decide +kernel)⟩
theorem lw_p19 : lw_okq (⟨"ThirstScales", "drinksIn", "(II)I"⟩, 10) := ⟨⟨by decide +kernel, by decide +kernel⟩, List.mem_of_getElem? (i := 13) (by decide +kernel), List.mem_of_getElem? (i := 405) (by decide +kernel), List.mem_of_getElem? (i := 406) (by decide +kernel)⟩
theorem lw_p20 : lw_okq (⟨"ThirstScales", "leastOf", "(I)I"⟩, 10) := ⟨⟨by decide +kernel, by decide +kernel⟩, List.mem_of_getElem? (i := 13) (by decide +kernel), List.mem_of_getElem? (i := 409) (by decide +kernel), List.mem_of_getElem? (i := 410) (by decide +kernel)⟩
theorem lw_p21 : lw_okq (⟨"ThirstScales", "leftAtWorst", "(III)I"⟩, 10) := ⟨⟨by decide +kernel, by decide +kernel⟩, List.mem_of_getElem? (i := 13) (by decide +kernel), List.mem_of_getElem? (i := 417) (by decide +kernel), List.mem_of_getElem? (i := 418) (by decide +kernel)⟩
theorem lw_p22 : lw_okq (⟨"ThirstScales", "endOfSpan", "(IIII)I"⟩, 10) := ⟨⟨by decide +kernel, by decide +kernel⟩, List.mem_of_getElem? (i := 13) (by decide +kernel), List.mem_of_getElem? (i := 421) (by decide +kernel), List.mem_of_getElem? (i := 422) (by decide +kernel)⟩
theorem lw_p23 : lw_okq (⟨"ThirstScales", "isEnough", "(IIIII)Z"⟩, 10) := ⟨⟨by decide +kernel, by decide +kernel⟩, List.mem_of_getElem? (i := 13) (by decide +kernel), List.mem_of_getElem? (i := 429) (by decide +kernel), List.mem_of_getElem? (i := 430) (by decide +kernel)⟩
theorem lw_p24 : lw_okq (⟨"ThirstScales", "isEnoughBy", "(IIIIII)Z"⟩, 10) := ⟨⟨by decide +kernel, by decide +kernel⟩, List.mem_of_getElem? (i := 13) (by decide +kernel), List.mem_of_getElem? (i := 433) (by decide +kernel), List.mem_of_getElem? (i := 434) (by decide +kernel)⟩
theorem lw_p25 : lw_okq (⟨"ThirstScales", "toldTastings", "()I"⟩, 10) := ⟨⟨by decide +kernel, by decide +kernel⟩, List.mem_of_getElem? (i := 13) (by decide +kernel), List.mem_of_getElem? (i := 454) (by decide +kernel), List.mem_of_getElem? (i := 455) (by decide +kernel)⟩
theorem lw_p26 : lw_okq (⟨"ThirstScales", "isAsTold", "(I)Z"⟩, 10) := ⟨⟨by decide +kernel, by decide +kernel⟩, List.mem_of_getElem? (i := 13) (by decide +kernel), List.mem_of_getElem? (i := 466) (by decide +kernel), List.mem_of_getElem? (i := 467) (by decide +kernel)⟩
theorem lw_p27 : lw_okq (⟨"ThirstScales", "markOfTaster", "(I)I"⟩, 10) := ⟨⟨by decide +kernel, by decide +kernel⟩, List.mem_of_getElem? (i := 13) (by decide +kernel), List.mem_of_getElem? (i := 490) (by decide +kernel), List.mem_of_getElem? (i := 491) (by decide +kernel)⟩
theorem lw_p28 : lw_okq (⟨"ThirstScales", "markOfCamel", "(I)I"⟩, 10) := ⟨⟨by decide +kernel, by decide +kernel⟩, List.mem_of_getElem? (i := 13) (by decide +kernel), List.mem_of_getElem? (i := 494) (by decide +kernel), List.mem_of_getElem? (i := 495) (by decide +kernel)⟩
theorem lw_p29 : lw_okq (⟨"ThirstScales", "markOfChild", "(I)I"⟩, 10) := ⟨⟨by decide +kernel, by decide +kernel⟩, List.mem_of_getElem? (i := 13) (by decide +kernel), List.mem_of_getElem? (i := 499) (by decide +kernel), List.mem_of_getElem? (i := 500) (by decide +kernel)⟩
theorem lw_p30 : lw_okq (⟨"ThirstScales", "markOfFeverish", "(I)I"⟩, 10) := ⟨⟨by decide +kernel, by decide +kernel⟩, List.mem_of_getElem? (i := 13) (by decide +kernel), List.mem_of_getElem? (i := 504) (by decide +kernel), List.mem_of_getElem? (i := 505) (by decide +kernel)⟩
theorem lw_p31 : lw_okq (⟨"ThirstScales", "markOfInspector", "(I)I"⟩, 10) := ⟨⟨by decide +kernel, by decide +kernel⟩, List.mem_of_getElem? (i := 13) (by decide +kernel), List.mem_of_getElem? (i := 509) (by decide +kernel), List.mem_of_getElem? (i := 510) (by decide +kernel)⟩
def lw_privs_2 : List (MethodName × Nat) := [(⟨"ThirstScales", "fact", "(II)I"⟩, 10), (⟨"ThirstScales", "greatestOf", "(I)I"⟩, 10), (⟨"ThirstScales", "canWeigh", "(II)Z"⟩, 10), (⟨"ThirstScales", "drinksIn", "(II)I"⟩, 10), (⟨"ThirstScales", "leastOf", "(I)I"⟩, 10), (⟨"ThirstScales", "leftAtWorst", "(III)I"⟩, 10), (⟨"ThirstScales", "endOfSpan", "(IIII)I"⟩, 10), (⟨"ThirstScales", "isEnough", "(IIIII)Z"⟩, 10), (⟨"ThirstScales", "isEnoughBy", "(IIIIII)Z"⟩, 10), (⟨"ThirstScales", "toldTastings", "()I"⟩, 10), (⟨"ThirstScales", "isAsTold", "(I)Z"⟩, 10), (⟨"ThirstScales", "markOfTaster", "(I)I"⟩, 10), (⟨"ThirstScales", "markOfCamel", "(I)I"⟩, 10), (⟨"ThirstScales", "markOfChild", "(I)I"⟩, 10), (⟨"ThirstScales", "markOfFeverish", "(I)I"⟩, 10), (⟨"ThirstScales", "markOfInspector", "(I)I"⟩, 10)]
theorem lw_r2 : ∀ q ∈ lw_privs_2, lw_okq q := List.forall_mem_cons.mpr ⟨lw_p16, List.forall_mem_cons.mpr ⟨lw_p17, List.forall_mem_cons.mpr ⟨lw_p18, List.forall_mem_cons.mpr ⟨lw_p19, List.forall_mem_cons.mpr ⟨lw_p20, List.forall_mem_cons.mpr ⟨lw_p21, List.forall_mem_cons.mpr ⟨lw_p22, List.forall_mem_cons.mpr ⟨lw_p23, List.forall_mem_cons.mpr ⟨lw_p24, List.forall_mem_cons.mpr ⟨lw_p25, List.forall_mem_cons.mpr ⟨lw_p26, List.forall_mem_cons.mpr ⟨lw_p27, List.forall_mem_cons.mpr ⟨lw_p28, List.forall_mem_cons.mpr ⟨lw_p29, List.forall_mem_cons.mpr ⟨lw_p30, List.forall_mem_cons.mpr ⟨lw_p31, fun _ h => absurd h List.not_mem_nil⟩⟩⟩⟩⟩⟩⟩⟩⟩⟩⟩⟩⟩⟩⟩⟩
theorem lw_p32 : lw_okq (⟨"ThirstScales", "markOfWell", "(I)I"⟩, 10) := ⟨⟨by decide +kernel, by decide +kernel⟩, List.mem_of_getElem? (i := 13) (by decide +kernel), List.mem_of_getElem? (i := 514) (by decide +kernel), List.mem_of_getElem? (i := 515) (by decide +kernel)⟩
theorem lw_p33 : lw_okq (⟨"ThirstScales", "imageAt", "(I)LThirstScales$Now;"⟩, 10) := ⟨⟨by decide +kernel, by decide +kernel⟩, List.mem_of_getElem? (i := 13) (by decide +kernel), List.mem_of_getElem? (i := 523) (by decide +kernel), List.mem_of_getElem? (i := 524) (by decide +kernel)⟩
theorem lw_p34 : lw_okq (⟨"ThirstScalesModel", "step", "()V"⟩, 21) := ⟨⟨by decide +kernel, by decide +kernel⟩, List.mem_of_getElem? (i := 544) (by decide +kernel), List.mem_of_getElem? (i := 631) (by decide +kernel), List.mem_of_getElem? (i := 632) (by decide +kernel)⟩
theorem lw_p35 : lw_okq (⟨"ThirstScalesModel", "here", "()I"⟩, 21) := ⟨⟨by decide +kernel, by decide +kernel⟩, List.mem_of_getElem? (i := 544) (by decide +kernel), List.mem_of_getElem? (i := 635) (by decide +kernel), List.mem_of_getElem? (i := 636) (by decide +kernel)⟩
theorem lw_p36 : lw_okq (⟨"ThirstScalesModel", "readItem", "()V"⟩, 21) := ⟨⟨by decide +kernel, by decide +kernel⟩, List.mem_of_getElem? (i := 544) (by decide +kernel), List.mem_of_getElem? (i := 642) (by decide +kernel), List.mem_of_getElem? (i := 643) (by decide +kernel)⟩
theorem lw_p37 : lw_okq (⟨"ThirstScalesModel", "due", "(Z)I"⟩, 21) := ⟨⟨by decide +kernel, by decide +kernel⟩, List.mem_of_getElem? (i := 544) (by decide +kernel), List.mem_of_getElem? (i := 646) (by decide +kernel), List.mem_of_getElem? (i := 647) (by decide +kernel)⟩
theorem lw_p38 : lw_okq (⟨"ThirstScalesModel", "number", "(II)I"⟩, 21) := ⟨⟨by decide +kernel, by decide +kernel⟩, List.mem_of_getElem? (i := 544) (by decide +kernel), List.mem_of_getElem? (i := 650) (by decide +kernel), List.mem_of_getElem? (i := 651) (by decide +kernel)⟩
theorem lw_p39 : lw_okq (⟨"ThirstScalesModel", "isLoad", "(I)Z"⟩, 21) := ⟨⟨by decide +kernel, by decide +kernel⟩, List.mem_of_getElem? (i := 544) (by decide +kernel), List.mem_of_getElem? (i := 658) (by decide +kernel), List.mem_of_getElem? (i := 659) (by decide +kernel)⟩
theorem lw_p40 : lw_okq (⟨"ThirstScalesModel", "isTaster", "(I)Z"⟩, 21) := ⟨⟨by decide +kernel, by decide +kernel⟩, List.mem_of_getElem? (i := 544) (by decide +kernel), List.mem_of_getElem? (i := 666) (by decide +kernel), List.mem_of_getElem? (i := 667) (by decide +kernel)⟩
theorem lw_p41 : lw_okq (⟨"ThirstScalesModel", "cupsOf", "(IIII)I"⟩, 21) := ⟨⟨by decide +kernel, by decide +kernel⟩, List.mem_of_getElem? (i := 544) (by decide +kernel), List.mem_of_getElem? (i := 674) (by decide +kernel), List.mem_of_getElem? (i := 675) (by decide +kernel)⟩
theorem lw_p42 : lw_okq (⟨"ThirstScalesModel", "know", "(IIII)V"⟩, 21) := ⟨⟨by decide +kernel, by decide +kernel⟩, List.mem_of_getElem? (i := 544) (by decide +kernel), List.mem_of_getElem? (i := 685) (by decide +kernel), List.mem_of_getElem? (i := 686) (by decide +kernel)⟩
theorem lw_p43 : lw_okq (⟨"ThirstScalesModel", "canBeOf", "(I)J"⟩, 21) := ⟨⟨by decide +kernel, by decide +kernel⟩, List.mem_of_getElem? (i := 544) (by decide +kernel), List.mem_of_getElem? (i := 717) (by decide +kernel), List.mem_of_getElem? (i := 718) (by decide +kernel)⟩
theorem lw_p44 : lw_okq (⟨"ThirstScalesModel", "worst", "(JI)I"⟩, 21) := ⟨⟨by decide +kernel, by decide +kernel⟩, List.mem_of_getElem? (i := 544) (by decide +kernel), List.mem_of_getElem? (i := 734) (by decide +kernel), List.mem_of_getElem? (i := 735) (by decide +kernel)⟩
theorem lw_p45 : lw_okq (⟨"ThirstScalesModel", "part", "(JI)J"⟩, 21) := ⟨⟨by decide +kernel, by decide +kernel⟩, List.mem_of_getElem? (i := 544) (by decide +kernel), List.mem_of_getElem? (i := 738) (by decide +kernel), List.mem_of_getElem? (i := 739) (by decide +kernel)⟩
theorem lw_p46 : lw_okq (⟨"ThirstScalesModel", "isEnoughByOne", "(JI)Z"⟩, 21) := ⟨⟨by decide +kernel, by decide +kernel⟩, List.mem_of_getElem? (i := 544) (by decide +kernel), List.mem_of_getElem? (i := 747) (by decide +kernel), List.mem_of_getElem? (i := 748) (by decide +kernel)⟩
theorem lw_p47 : lw_okq (⟨"ThirstScalesModel", "isEnoughByTwo", "(JI)Z"⟩, 21) := ⟨⟨by decide +kernel, by decide +kernel⟩, List.mem_of_getElem? (i := 544) (by decide +kernel), List.mem_of_getElem? (i := 751) (by decide +kernel), List.mem_of_getElem? (i := 752) (by decide +kernel)⟩
def lw_privs_3 : List (MethodName × Nat) := [(⟨"ThirstScales", "markOfWell", "(I)I"⟩, 10), (⟨"ThirstScales", "imageAt", "(I)LThirstScales$Now;"⟩, 10), (⟨"ThirstScalesModel", "step", "()V"⟩, 21), (⟨"ThirstScalesModel", "here", "()I"⟩, 21), (⟨"ThirstScalesModel", "readItem", "()V"⟩, 21), (⟨"ThirstScalesModel", "due", "(Z)I"⟩, 21), (⟨"ThirstScalesModel", "number", "(II)I"⟩, 21), (⟨"ThirstScalesModel", "isLoad", "(I)Z"⟩, 21), (⟨"ThirstScalesModel", "isTaster", "(I)Z"⟩, 21), (⟨"ThirstScalesModel", "cupsOf", "(IIII)I"⟩, 21), (⟨"ThirstScalesModel", "know", "(IIII)V"⟩, 21), (⟨"ThirstScalesModel", "canBeOf", "(I)J"⟩, 21), (⟨"ThirstScalesModel", "worst", "(JI)I"⟩, 21), (⟨"ThirstScalesModel", "part", "(JI)J"⟩, 21), (⟨"ThirstScalesModel", "isEnoughByOne", "(JI)Z"⟩, 21), (⟨"ThirstScalesModel", "isEnoughByTwo", "(JI)Z"⟩, 21)]
theorem lw_r3 : ∀ q ∈ lw_privs_3, lw_okq q := List.forall_mem_cons.mpr ⟨lw_p32, List.forall_mem_cons.mpr ⟨lw_p33, List.forall_mem_cons.mpr ⟨lw_p34, List.forall_mem_cons.mpr ⟨lw_p35, List.forall_mem_cons.mpr ⟨lw_p36, List.forall_mem_cons.mpr ⟨lw_p37, List.forall_mem_cons.mpr ⟨lw_p38, List.forall_mem_cons.mpr ⟨lw_p39, List.forall_mem_cons.mpr ⟨lw_p40, List.forall_mem_cons.mpr ⟨lw_p41, List.forall_mem_cons.mpr ⟨lw_p42, List.forall_mem_cons.mpr ⟨lw_p43, List.forall_mem_cons.mpr ⟨lw_p44, List.forall_mem_cons.mpr ⟨lw_p45, List.forall_mem_cons.mpr ⟨lw_p46, List.forall_mem_cons.mpr ⟨lw_p47, fun _ h => absurd h List.not_mem_nil⟩⟩⟩⟩⟩⟩⟩⟩⟩⟩⟩⟩⟩⟩⟩⟩
theorem lw_p48 : lw_okq (⟨"ThirstScalesModel", "isEnoughByThree", "(JI)Z"⟩, 21) := ⟨⟨by decide +kernel, by decide +kernel⟩, List.mem_of_getElem? (i := 544) (by decide +kernel), List.mem_of_getElem? (i := 755) (by decide +kernel), List.mem_of_getElem? (i := 756) (by decide +kernel)⟩
theorem lw_p49 : lw_okq (⟨"ThirstScalesModel", "isAsTold", "(I)Z"⟩, 21) := ⟨⟨by decide +kernel, by decide +kernel⟩, List.mem_of_getElem? (i := 544) (by decide +kernel), List.mem_of_getElem? (i := 778) (by decide +kernel), List.mem_of_getElem? (i := 779) (by decide +kernel)⟩
theorem lw_p50 : lw_okq (⟨"ThirstScalesModel", "copy", "(II)V"⟩, 21) := ⟨⟨by decide +kernel, by decide +kernel⟩, List.mem_of_getElem? (i := 544) (by decide +kernel), List.mem_of_getElem? (i := 820) (by decide +kernel), List.mem_of_getElem? (i := 821) (by decide +kernel)⟩
def lw_privs_4 : List (MethodName × Nat) := [(⟨"ThirstScalesModel", "isEnoughByThree", "(JI)Z"⟩, 21), (⟨"ThirstScalesModel", "isAsTold", "(I)Z"⟩, 21), (⟨"ThirstScalesModel", "copy", "(II)V"⟩, 21)]
theorem lw_r4 : ∀ q ∈ lw_privs_4, lw_okq q := List.forall_mem_cons.mpr ⟨lw_p48, List.forall_mem_cons.mpr ⟨lw_p49, List.forall_mem_cons.mpr ⟨lw_p50, fun _ h => absurd h List.not_mem_nil⟩⟩⟩
def lw_privs : List (MethodName × Nat) := lw_privs_1 ++ (lw_privs_2 ++ (lw_privs_3 ++ (lw_privs_4)))
def lw_tbl : List Cond := k2_sels lw_privs ++ tables_1
theorem lw_privs_ok : ∀ q ∈ lw_privs, lw_okq q := by
  show ∀ q ∈ lw_privs_1 ++ (lw_privs_2 ++ (lw_privs_3 ++ (lw_privs_4))), lw_okq q
  exact List.forall_mem_append.mpr ⟨lw_r1, List.forall_mem_append.mpr ⟨lw_r2, List.forall_mem_append.mpr ⟨lw_r3, lw_r4⟩⟩⟩
def RX0 : String := "ThirstScales$Law"
def TX0 : u_T := fun k => match k with
  | _ => ("", "", "", false)
def tyX0 : Nat → FieldType := fun k => match k with
  | _ => .int
abbrev wsX00 : List Cond := u_ws RX0 TX0 0
theorem nmX0 : ∀ a, a < 0 → ∀ b, b < 0 → a ≠ b → (TX0 a).2.1 ≠ (TX0 b).2.1 := by decide +kernel
theorem tyX0_ok : ∀ k, k < 0 → parseFieldDescriptor (TX0 k).2.2.1 = some (tyX0 k) := by decide +kernel
abbrev cX0_numbered : ByteArray := prog_2_method_2_code
def yX0_numbered : MethodName := ⟨RX0, "numbered", "(IIII)I"⟩
abbrev cX0_part : ByteArray := prog_2_method_3_code
def yX0_part : MethodName := ⟨RX0, "part", "(II)I"⟩
abbrev cX0_least : ByteArray := prog_2_method_4_code
def yX0_least : MethodName := ⟨RX0, "least", "(I)I"⟩
abbrev cX0_most : ByteArray := prog_2_method_5_code
def yX0_most : MethodName := ⟨RX0, "most", "(I)I"⟩
abbrev cX0_drinks : ByteArray := prog_2_method_6_code
def yX0_drinks : MethodName := ⟨RX0, "drinks", "(IIII)I"⟩
def RX1 : String := "ThirstScales$Now"
def TX1 : u_T := fun k => match k with
  | 0 => ("ThirstScales$Now", "licks", "LThirstScales$Row;", true)
  | 1 => ("ThirstScales$Now", "facts", "LThirstScales$Row;", true)
  | _ => ("ThirstScales$Now", "warmth", "I", false)
def tyX1 : Nat → FieldType := fun k => match k with
  | 0 => .object "ThirstScales$Row"
  | 1 => .object "ThirstScales$Row"
  | _ => .int
abbrev wsX10 : List Cond := u_ws RX1 TX1 3
theorem nmX1 : ∀ a, a < 3 → ∀ b, b < 3 → a ≠ b → (TX1 a).2.1 ≠ (TX1 b).2.1 := by decide +kernel
theorem tyX1_ok : ∀ k, k < 3 → parseFieldDescriptor (TX1 k).2.2.1 = some (tyX1 k) := by decide +kernel
abbrev cX1_init : ByteArray := prog_3_method_1_code
def yX1_init : MethodName := ⟨RX1, "<init>", "()V"⟩
abbrev cX1_begin : ByteArray := prog_3_method_2_code
def yX1_begin : MethodName := ⟨RX1, "begin", "(II)V"⟩
abbrev cX1_copyFrom : ByteArray := prog_3_method_3_code
def yX1_copyFrom : MethodName := ⟨RX1, "copyFrom", "(LThirstScales$Now;)V"⟩
def RX2 : String := "ThirstScales$Reader"
def TX2 : u_T := fun k => match k with
  | 0 => ("ThirstScales$Reader", "text", "LThirstScales$Row;", true)
  | 1 => ("ThirstScales$Reader", "weights", "LThirstScales$Row;", true)
  | 2 => ("ThirstScales$Reader", "laws", "LThirstScales$Row;", true)
  | 3 => ("ThirstScales$Reader", "warmth", "I", false)
  | 4 => ("ThirstScales$Reader", "items", "I", false)
  | 5 => ("ThirstScales$Reader", "parts", "LThirstScales$Row;", true)
  | 6 => ("ThirstScales$Reader", "heatIsTold", "Z", false)
  | 7 => ("ThirstScales$Reader", "place", "I", false)
  | 8 => ("ThirstScales$Reader", "start", "I", false)
  | 9 => ("ThirstScales$Reader", "token", "I", false)
  | _ => ("ThirstScales$Reader", "value", "I", false)
def tyX2 : Nat → FieldType := fun k => match k with
  | 0 => .object "ThirstScales$Row"
  | 1 => .object "ThirstScales$Row"
  | 2 => .object "ThirstScales$Row"
  | 3 => .int
  | 4 => .int
  | 5 => .object "ThirstScales$Row"
  | 6 => .boolean
  | 7 => .int
  | 8 => .int
  | 9 => .int
  | _ => .int
abbrev wsX20 : List Cond := u_ws RX2 TX2 11
theorem nmX2 : ∀ a, a < 11 → ∀ b, b < 11 → a ≠ b → (TX2 a).2.1 ≠ (TX2 b).2.1 := by decide +kernel
theorem tyX2_ok : ∀ k, k < 11 → parseFieldDescriptor (TX2 k).2.2.1 = some (tyX2 k) := by decide +kernel
abbrev cX2_init : ByteArray := prog_4_method_1_code
def yX2_init : MethodName := ⟨RX2, "<init>", "()V"⟩
abbrev cX2_fault : ByteArray := prog_4_method_2_code
def yX2_fault : MethodName := ⟨RX2, "fault", "()I"⟩
abbrev cX2_readsAll : ByteArray := prog_4_method_3_code
def yX2_readsAll : MethodName := ⟨RX2, "readsAll", "()Z"⟩
abbrev cX2_beginAnew : ByteArray := prog_4_method_4_code
def yX2_beginAnew : MethodName := ⟨RX2, "beginAnew", "()V"⟩
abbrev cX2_readsLoad : ByteArray := prog_4_method_5_code
def yX2_readsLoad : MethodName := ⟨RX2, "readsLoad", "()Z"⟩
abbrev cX2_readsTaster : ByteArray := prog_4_method_6_code
def yX2_readsTaster : MethodName := ⟨RX2, "readsTaster", "()Z"⟩
abbrev cX2_readsHeat : ByteArray := prog_4_method_7_code
def yX2_readsHeat : MethodName := ⟨RX2, "readsHeat", "()Z"⟩
abbrev cX2_readsNumber : ByteArray := prog_4_method_8_code
def yX2_readsNumber : MethodName := ⟨RX2, "readsNumber", "(II)Z"⟩
abbrev cX2_readsEndOfItem : ByteArray := prog_4_method_9_code
def yX2_readsEndOfItem : MethodName := ⟨RX2, "readsEndOfItem", "()Z"⟩
abbrev cX2_readToken : ByteArray := prog_4_method_10_code
def yX2_readToken : MethodName := ⟨RX2, "readToken", "()V"⟩
abbrev cX2_readDigits : ByteArray := prog_4_method_11_code
def yX2_readDigits : MethodName := ⟨RX2, "readDigits", "()V"⟩
abbrev cX2_readLetters : ByteArray := prog_4_method_12_code
def yX2_readLetters : MethodName := ⟨RX2, "readLetters", "()V"⟩
abbrev cX2_isWord : ByteArray := prog_4_method_13_code
def yX2_isWord : MethodName := ⟨RX2, "isWord", "(Ljava/lang/String;)Z"⟩
abbrev cX2_isDigit : ByteArray := prog_4_method_14_code
def yX2_isDigit : MethodName := ⟨RX2, "isDigit", "(I)Z"⟩
abbrev cX2_isLetter : ByteArray := prog_4_method_15_code
def yX2_isLetter : MethodName := ⟨RX2, "isLetter", "(I)Z"⟩
def RX3 : String := "ThirstScales$Row"
def TX3 : u_T := fun k => match k with
  | 0 => ("ThirstScales$Row", "cells", "[I", true)
  | _ => ("ThirstScales$Row", "used", "I", false)
def tyX3 : Nat → FieldType := fun k => match k with
  | 0 => .array .int
  | _ => .int
abbrev wsX30 : List Cond := u_ws RX3 TX3 2
theorem nmX3 : ∀ a, a < 2 → ∀ b, b < 2 → a ≠ b → (TX3 a).2.1 ≠ (TX3 b).2.1 := by decide +kernel
theorem tyX3_ok : ∀ k, k < 2 → parseFieldDescriptor (TX3 k).2.2.1 = some (tyX3 k) := by decide +kernel
abbrev cX3_init : ByteArray := prog_5_method_1_code
def yX3_init : MethodName := ⟨RX3, "<init>", "(I)V"⟩
abbrev cX3_size : ByteArray := prog_5_method_2_code
def yX3_size : MethodName := ⟨RX3, "size", "()I"⟩
abbrev cX3_has : ByteArray := prog_5_method_3_code
def yX3_has : MethodName := ⟨RX3, "has", "(I)Z"⟩
abbrev cX3_at : ByteArray := prog_5_method_4_code
def yX3_at : MethodName := ⟨RX3, "at", "(I)I"⟩
abbrev cX3_put : ByteArray := prog_5_method_5_code
def yX3_put : MethodName := ⟨RX3, "put", "(II)V"⟩
abbrev cX3_add : ByteArray := prog_5_method_6_code
def yX3_add : MethodName := ⟨RX3, "add", "(I)V"⟩
abbrev cX3_cutTo : ByteArray := prog_5_method_7_code
def yX3_cutTo : MethodName := ⟨RX3, "cutTo", "(I)V"⟩
abbrev cX3_copyFrom : ByteArray := prog_5_method_8_code
def yX3_copyFrom : MethodName := ⟨RX3, "copyFrom", "(LThirstScales$Row;)V"⟩
def RX4 : String := "ThirstScales"
def TX4 : u_T := fun k => match k with
  | 0 => ("ThirstScales", "reader", "LThirstScales$Reader;", true)
  | 1 => ("ThirstScales", "weights", "LThirstScales$Row;", true)
  | 2 => ("ThirstScales", "laws", "LThirstScales$Row;", true)
  | 3 => ("ThirstScales", "tastings", "LThirstScales$Row;", true)
  | 4 => ("ThirstScales", "now", "LThirstScales$Now;", true)
  | 5 => ("ThirstScales", "firstImage", "LThirstScales$Now;", true)
  | 6 => ("ThirstScales", "secondImage", "LThirstScales$Now;", true)
  | 7 => ("ThirstScales", "firstIsKept", "Z", false)
  | 8 => ("ThirstScales", "secondIsKept", "Z", false)
  | _ => ("ThirstScales", "marksAsked", "J", false)
def tyX4 : Nat → FieldType := fun k => match k with
  | 0 => .object "ThirstScales$Reader"
  | 1 => .object "ThirstScales$Row"
  | 2 => .object "ThirstScales$Row"
  | 3 => .object "ThirstScales$Row"
  | 4 => .object "ThirstScales$Now"
  | 5 => .object "ThirstScales$Now"
  | 6 => .object "ThirstScales$Now"
  | 7 => .boolean
  | 8 => .boolean
  | _ => .long
abbrev wsX40 : List Cond := u_ws RX4 TX4 10
theorem nmX4 : ∀ a, a < 10 → ∀ b, b < 10 → a ≠ b → (TX4 a).2.1 ≠ (TX4 b).2.1 := by decide +kernel
theorem tyX4_ok : ∀ k, k < 10 → parseFieldDescriptor (TX4 k).2.2.1 = some (tyX4 k) := by decide +kernel
abbrev cX4_init : ByteArray := prog_1_method_1_code
def yX4_init : MethodName := ⟨RX4, "<init>", "()V"⟩
abbrev cX4_type : ByteArray := prog_1_method_2_code
def yX4_type : MethodName := ⟨RX4, "type", "(JI)I"⟩
abbrev cX4_clear : ByteArray := prog_1_method_3_code
def yX4_clear : MethodName := ⟨RX4, "clear", "()I"⟩
abbrev cX4_gate : ByteArray := prog_1_method_4_code
def yX4_gate : MethodName := ⟨RX4, "gate", "()I"⟩
abbrev cX4_load : ByteArray := prog_1_method_5_code
def yX4_load : MethodName := ⟨RX4, "load", "(I)I"⟩
abbrev cX4_taster : ByteArray := prog_1_method_6_code
def yX4_taster : MethodName := ⟨RX4, "taster", "(II)I"⟩
abbrev cX4_cups : ByteArray := prog_1_method_7_code
def yX4_cups : MethodName := ⟨RX4, "cups", "(III)I"⟩
abbrev cX4_weighs : ByteArray := prog_1_method_8_code
def yX4_weighs : MethodName := ⟨RX4, "weighs", "(II)I"⟩
abbrev cX4_says : ByteArray := prog_1_method_9_code
def yX4_says : MethodName := ⟨RX4, "says", "(III)I"⟩
abbrev cX4_jug : ByteArray := prog_1_method_10_code
def yX4_jug : MethodName := ⟨RX4, "jug", "(IIIII)I"⟩
abbrev cX4_night : ByteArray := prog_1_method_11_code
def yX4_night : MethodName := ⟨RX4, "night", "()I"⟩
abbrev cX4_heat : ByteArray := prog_1_method_12_code
def yX4_heat : MethodName := ⟨RX4, "heat", "(I)I"⟩
abbrev cX4_undo : ByteArray := prog_1_method_13_code
def yX4_undo : MethodName := ⟨RX4, "undo", "()I"⟩
abbrev cX4_known : ByteArray := prog_1_method_14_code
def yX4_known : MethodName := ⟨RX4, "known", "(II)I"⟩
abbrev cX4_canBe : ByteArray := prog_1_method_15_code
def yX4_canBe : MethodName := ⟨RX4, "canBe", "(II)I"⟩
abbrev cX4_next : ByteArray := prog_1_method_16_code
def yX4_next : MethodName := ⟨RX4, "next", "(II)I"⟩
abbrev cX4_enough : ByteArray := prog_1_method_17_code
def yX4_enough : MethodName := ⟨RX4, "enough", "(II)I"⟩
abbrev cX4_heavier : ByteArray := prog_1_method_18_code
def yX4_heavier : MethodName := ⟨RX4, "heavier", "(II)I"⟩
abbrev cX4_told : ByteArray := prog_1_method_19_code
def yX4_told : MethodName := ⟨RX4, "told", "(IIII)I"⟩
abbrev cX4_forget : ByteArray := prog_1_method_20_code
def yX4_forget : MethodName := ⟨RX4, "forget", "()I"⟩
abbrev cX4_learnt : ByteArray := prog_1_method_21_code
def yX4_learnt : MethodName := ⟨RX4, "learnt", "(I)I"⟩
abbrev cX4_may : ByteArray := prog_1_method_22_code
def yX4_may : MethodName := ⟨RX4, "may", "(IIII)I"⟩
abbrev cX4_bribed : ByteArray := prog_1_method_23_code
def yX4_bribed : MethodName := ⟨RX4, "bribed", "()I"⟩
abbrev cX4_memory : ByteArray := prog_1_method_24_code
def yX4_memory : MethodName := ⟨RX4, "memory", "(IIII)I"⟩
abbrev cX4_mark : ByteArray := prog_1_method_25_code
def yX4_mark : MethodName := ⟨RX4, "mark", "(II)I"⟩
abbrev cX4_keep : ByteArray := prog_1_method_26_code
def yX4_keep : MethodName := ⟨RX4, "keep", "(I)I"⟩
abbrev cX4_back : ByteArray := prog_1_method_27_code
def yX4_back : MethodName := ⟨RX4, "back", "(I)I"⟩
abbrev cX4_count : ByteArray := prog_1_method_28_code
def yX4_count : MethodName := ⟨RX4, "count", "(I)I"⟩
abbrev cX4_trace : ByteArray := prog_1_method_29_code
def yX4_trace : MethodName := ⟨RX4, "trace", "()J"⟩
abbrev cX4_isWithin : ByteArray := prog_1_method_30_code
def yX4_isWithin : MethodName := ⟨RX4, "isWithin", "(III)Z"⟩
abbrev cX4_isWeight : ByteArray := prog_1_method_31_code
def yX4_isWeight : MethodName := ⟨RX4, "isWeight", "(I)Z"⟩
abbrev cX4_isLoad : ByteArray := prog_1_method_32_code
def yX4_isLoad : MethodName := ⟨RX4, "isLoad", "(I)Z"⟩
abbrev cX4_isTaster : ByteArray := prog_1_method_33_code
def yX4_isTaster : MethodName := ⟨RX4, "isTaster", "(I)Z"⟩
abbrev cX4_isTasting : ByteArray := prog_1_method_34_code
def yX4_isTasting : MethodName := ⟨RX4, "isTasting", "(III)Z"⟩
abbrev cX4_facts : ByteArray := prog_1_method_35_code
def yX4_facts : MethodName := ⟨RX4, "facts", "()I"⟩
abbrev cX4_fact : ByteArray := prog_1_method_36_code
def yX4_fact : MethodName := ⟨RX4, "fact", "(II)I"⟩
abbrev cX4_addFact : ByteArray := prog_1_method_37_code
def yX4_addFact : MethodName := ⟨RX4, "addFact", "(IIII)V"⟩
abbrev cX4_addLick : ByteArray := prog_1_method_38_code
def yX4_addLick : MethodName := ⟨RX4, "addLick", "(I)V"⟩
abbrev cX4_thirst : ByteArray := prog_1_method_39_code
def yX4_thirst : MethodName := ⟨RX4, "thirst", "(II)I"⟩
abbrev cX4_drinksIn : ByteArray := prog_1_method_40_code
def yX4_drinksIn : MethodName := ⟨RX4, "drinksIn", "(II)I"⟩
abbrev cX4_canWeigh : ByteArray := prog_1_method_41_code
def yX4_canWeigh : MethodName := ⟨RX4, "canWeigh", "(II)Z"⟩
abbrev cX4_leastOf : ByteArray := prog_1_method_42_code
def yX4_leastOf : MethodName := ⟨RX4, "leastOf", "(I)I"⟩
abbrev cX4_greatestOf : ByteArray := prog_1_method_43_code
def yX4_greatestOf : MethodName := ⟨RX4, "greatestOf", "(I)I"⟩
abbrev cX4_endOfSpan : ByteArray := prog_1_method_44_code
def yX4_endOfSpan : MethodName := ⟨RX4, "endOfSpan", "(IIII)I"⟩
abbrev cX4_leftAtWorst : ByteArray := prog_1_method_45_code
def yX4_leftAtWorst : MethodName := ⟨RX4, "leftAtWorst", "(III)I"⟩
abbrev cX4_plannedLicks : ByteArray := prog_1_method_46_code
def yX4_plannedLicks : MethodName := ⟨RX4, "plannedLicks", "(II)I"⟩
abbrev cX4_planWith : ByteArray := prog_1_method_47_code
def yX4_planWith : MethodName := ⟨RX4, "planWith", "(II)I"⟩
abbrev cX4_isEnough : ByteArray := prog_1_method_48_code
def yX4_isEnough : MethodName := ⟨RX4, "isEnough", "(IIIII)Z"⟩
abbrev cX4_isEnoughBy : ByteArray := prog_1_method_49_code
def yX4_isEnoughBy : MethodName := ⟨RX4, "isEnoughBy", "(IIIIII)Z"⟩
abbrev cX4_toldTastings : ByteArray := prog_1_method_50_code
def yX4_toldTastings : MethodName := ⟨RX4, "toldTastings", "()I"⟩
abbrev cX4_isAsTold : ByteArray := prog_1_method_51_code
def yX4_isAsTold : MethodName := ⟨RX4, "isAsTold", "(I)Z"⟩
abbrev cX4_markOfTaster : ByteArray := prog_1_method_52_code
def yX4_markOfTaster : MethodName := ⟨RX4, "markOfTaster", "(I)I"⟩
abbrev cX4_markOfCamel : ByteArray := prog_1_method_53_code
def yX4_markOfCamel : MethodName := ⟨RX4, "markOfCamel", "(I)I"⟩
abbrev cX4_markOfChild : ByteArray := prog_1_method_54_code
def yX4_markOfChild : MethodName := ⟨RX4, "markOfChild", "(I)I"⟩
abbrev cX4_markOfFeverish : ByteArray := prog_1_method_55_code
def yX4_markOfFeverish : MethodName := ⟨RX4, "markOfFeverish", "(I)I"⟩
abbrev cX4_markOfInspector : ByteArray := prog_1_method_56_code
def yX4_markOfInspector : MethodName := ⟨RX4, "markOfInspector", "(I)I"⟩
abbrev cX4_markOfWell : ByteArray := prog_1_method_57_code
def yX4_markOfWell : MethodName := ⟨RX4, "markOfWell", "(I)I"⟩
abbrev cX4_imageAt : ByteArray := prog_1_method_58_code
def yX4_imageAt : MethodName := ⟨RX4, "imageAt", "(I)LThirstScales$Now;"⟩
def RX5 : String := "ThirstScalesModel"
def TX5 : u_T := fun k => match k with
  | 0 => ("ThirstScalesModel", "trace", "J", false)
  | 1 => ("ThirstScalesModel", "text", "[B", true)
  | 2 => ("ThirstScalesModel", "typed", "I", false)
  | 3 => ("ThirstScalesModel", "loads", "[I", true)
  | 4 => ("ThirstScalesModel", "weights", "[I", true)
  | 5 => ("ThirstScalesModel", "tasters", "[I", true)
  | 6 => ("ThirstScalesModel", "as", "[I", true)
  | 7 => ("ThirstScalesModel", "bs", "[I", true)
  | 8 => ("ThirstScalesModel", "ds", "[I", true)
  | 9 => ("ThirstScalesModel", "ts", "[I", true)
  | 10 => ("ThirstScalesModel", "firstHeat", "[I", true)
  | 11 => ("ThirstScalesModel", "at", "I", false)
  | 12 => ("ThirstScalesModel", "start", "I", false)
  | 13 => ("ThirstScalesModel", "sort", "I", false)
  | 14 => ("ThirstScalesModel", "value", "I", false)
  | 15 => ("ThirstScalesModel", "fault", "I", false)
  | 16 => ("ThirstScalesModel", "hasHeat", "Z", false)
  | 17 => ("ThirstScalesModel", "now", "[I", true)
  | 18 => ("ThirstScalesModel", "isKept", "[Z", true)
  | 19 => ("ThirstScalesModel", "tasting", "[I", true)
  | _ => ("ThirstScalesModel", "tastings", "I", false)
def tyX5 : Nat → FieldType := fun k => match k with
  | 0 => .long
  | 1 => .array .byte
  | 2 => .int
  | 3 => .array .int
  | 4 => .array .int
  | 5 => .array .int
  | 6 => .array .int
  | 7 => .array .int
  | 8 => .array .int
  | 9 => .array .int
  | 10 => .array .int
  | 11 => .int
  | 12 => .int
  | 13 => .int
  | 14 => .int
  | 15 => .int
  | 16 => .boolean
  | 17 => .array .int
  | 18 => .array .boolean
  | 19 => .array .int
  | _ => .int
abbrev wsX50 : List Cond := u_ws RX5 TX5 21
theorem nmX5 : ∀ a, a < 21 → ∀ b, b < 21 → a ≠ b → (TX5 a).2.1 ≠ (TX5 b).2.1 := by decide +kernel
theorem tyX5_ok : ∀ k, k < 21 → parseFieldDescriptor (TX5 k).2.2.1 = some (tyX5 k) := by decide +kernel
abbrev cX5_init : ByteArray := prog_7_method_1_code
def yX5_init : MethodName := ⟨RX5, "<init>", "()V"⟩
abbrev cX5_in : ByteArray := prog_7_method_3_code
def yX5_in : MethodName := ⟨RX5, "in", "(III)Z"⟩
abbrev cX5_type : ByteArray := prog_7_method_4_code
def yX5_type : MethodName := ⟨RX5, "type", "(JI)I"⟩
abbrev cX5_clear : ByteArray := prog_7_method_5_code
def yX5_clear : MethodName := ⟨RX5, "clear", "()I"⟩
abbrev cX5_here : ByteArray := prog_7_method_6_code
def yX5_here : MethodName := ⟨RX5, "here", "()I"⟩
abbrev cX5_step : ByteArray := prog_7_method_7_code
def yX5_step : MethodName := ⟨RX5, "step", "()V"⟩
abbrev cX5_due : ByteArray := prog_7_method_8_code
def yX5_due : MethodName := ⟨RX5, "due", "(Z)I"⟩
abbrev cX5_number : ByteArray := prog_7_method_9_code
def yX5_number : MethodName := ⟨RX5, "number", "(II)I"⟩
abbrev cX5_readItem : ByteArray := prog_7_method_10_code
def yX5_readItem : MethodName := ⟨RX5, "readItem", "()V"⟩
abbrev cX5_gate : ByteArray := prog_7_method_11_code
def yX5_gate : MethodName := ⟨RX5, "gate", "()I"⟩
abbrev cX5_isLoad : ByteArray := prog_7_method_12_code
def yX5_isLoad : MethodName := ⟨RX5, "isLoad", "(I)Z"⟩
abbrev cX5_isTaster : ByteArray := prog_7_method_13_code
def yX5_isTaster : MethodName := ⟨RX5, "isTaster", "(I)Z"⟩
abbrev cX5_byLaw : ByteArray := prog_7_method_14_code
def yX5_byLaw : MethodName := ⟨RX5, "byLaw", "(IIIIIII)I"⟩
abbrev cX5_cupsOf : ByteArray := prog_7_method_15_code
def yX5_cupsOf : MethodName := ⟨RX5, "cupsOf", "(IIII)I"⟩
abbrev cX5_load : ByteArray := prog_7_method_16_code
def yX5_load : MethodName := ⟨RX5, "load", "(I)I"⟩
abbrev cX5_taster : ByteArray := prog_7_method_17_code
def yX5_taster : MethodName := ⟨RX5, "taster", "(II)I"⟩
abbrev cX5_cups : ByteArray := prog_7_method_18_code
def yX5_cups : MethodName := ⟨RX5, "cups", "(III)I"⟩
abbrev cX5_know : ByteArray := prog_7_method_19_code
def yX5_know : MethodName := ⟨RX5, "know", "(IIII)V"⟩
abbrev cX5_weighs : ByteArray := prog_7_method_20_code
def yX5_weighs : MethodName := ⟨RX5, "weighs", "(II)I"⟩
abbrev cX5_says : ByteArray := prog_7_method_21_code
def yX5_says : MethodName := ⟨RX5, "says", "(III)I"⟩
abbrev cX5_jug : ByteArray := prog_7_method_22_code
def yX5_jug : MethodName := ⟨RX5, "jug", "(IIIII)I"⟩
abbrev cX5_night : ByteArray := prog_7_method_23_code
def yX5_night : MethodName := ⟨RX5, "night", "()I"⟩
abbrev cX5_heat : ByteArray := prog_7_method_24_code
def yX5_heat : MethodName := ⟨RX5, "heat", "(I)I"⟩
abbrev cX5_undo : ByteArray := prog_7_method_25_code
def yX5_undo : MethodName := ⟨RX5, "undo", "()I"⟩
abbrev cX5_known : ByteArray := prog_7_method_26_code
def yX5_known : MethodName := ⟨RX5, "known", "(II)I"⟩
abbrev cX5_canBeOf : ByteArray := prog_7_method_27_code
def yX5_canBeOf : MethodName := ⟨RX5, "canBeOf", "(I)J"⟩
abbrev cX5_manyOf : ByteArray := prog_7_method_28_code
def yX5_manyOf : MethodName := ⟨RX5, "manyOf", "(J)I"⟩
abbrev cX5_least : ByteArray := prog_7_method_29_code
def yX5_least : MethodName := ⟨RX5, "least", "(J)I"⟩
abbrev cX5_most : ByteArray := prog_7_method_30_code
def yX5_most : MethodName := ⟨RX5, "most", "(J)I"⟩
abbrev cX5_canBe : ByteArray := prog_7_method_31_code
def yX5_canBe : MethodName := ⟨RX5, "canBe", "(II)I"⟩
abbrev cX5_part : ByteArray := prog_7_method_32_code
def yX5_part : MethodName := ⟨RX5, "part", "(JI)J"⟩
abbrev cX5_worst : ByteArray := prog_7_method_33_code
def yX5_worst : MethodName := ⟨RX5, "worst", "(JI)I"⟩
abbrev cX5_next : ByteArray := prog_7_method_34_code
def yX5_next : MethodName := ⟨RX5, "next", "(II)I"⟩
abbrev cX5_isEnoughByOne : ByteArray := prog_7_method_35_code
def yX5_isEnoughByOne : MethodName := ⟨RX5, "isEnoughByOne", "(JI)Z"⟩
abbrev cX5_isEnoughByTwo : ByteArray := prog_7_method_36_code
def yX5_isEnoughByTwo : MethodName := ⟨RX5, "isEnoughByTwo", "(JI)Z"⟩
abbrev cX5_isEnoughByThree : ByteArray := prog_7_method_37_code
def yX5_isEnoughByThree : MethodName := ⟨RX5, "isEnoughByThree", "(JI)Z"⟩
abbrev cX5_enough : ByteArray := prog_7_method_38_code
def yX5_enough : MethodName := ⟨RX5, "enough", "(II)I"⟩
abbrev cX5_heavier : ByteArray := prog_7_method_39_code
def yX5_heavier : MethodName := ⟨RX5, "heavier", "(II)I"⟩
abbrev cX5_isTasting : ByteArray := prog_7_method_40_code
def yX5_isTasting : MethodName := ⟨RX5, "isTasting", "(III)Z"⟩
abbrev cX5_told : ByteArray := prog_7_method_41_code
def yX5_told : MethodName := ⟨RX5, "told", "(IIII)I"⟩
abbrev cX5_forget : ByteArray := prog_7_method_42_code
def yX5_forget : MethodName := ⟨RX5, "forget", "()I"⟩
abbrev cX5_aOf : ByteArray := prog_7_method_43_code
def yX5_aOf : MethodName := ⟨RX5, "aOf", "(I)I"⟩
abbrev cX5_bOf : ByteArray := prog_7_method_44_code
def yX5_bOf : MethodName := ⟨RX5, "bOf", "(I)I"⟩
abbrev cX5_dOf : ByteArray := prog_7_method_45_code
def yX5_dOf : MethodName := ⟨RX5, "dOf", "(I)I"⟩
abbrev cX5_tOf : ByteArray := prog_7_method_46_code
def yX5_tOf : MethodName := ⟨RX5, "tOf", "(I)I"⟩
abbrev cX5_isAsTold : ByteArray := prog_7_method_47_code
def yX5_isAsTold : MethodName := ⟨RX5, "isAsTold", "(I)Z"⟩
abbrev cX5_learnt : ByteArray := prog_7_method_48_code
def yX5_learnt : MethodName := ⟨RX5, "learnt", "(I)I"⟩
abbrev cX5_may : ByteArray := prog_7_method_49_code
def yX5_may : MethodName := ⟨RX5, "may", "(IIII)I"⟩
abbrev cX5_bribed : ByteArray := prog_7_method_50_code
def yX5_bribed : MethodName := ⟨RX5, "bribed", "()I"⟩
abbrev cX5_memory : ByteArray := prog_7_method_51_code
def yX5_memory : MethodName := ⟨RX5, "memory", "(IIII)I"⟩
abbrev cX5_mark : ByteArray := prog_7_method_52_code
def yX5_mark : MethodName := ⟨RX5, "mark", "(II)I"⟩
abbrev cX5_copy : ByteArray := prog_7_method_53_code
def yX5_copy : MethodName := ⟨RX5, "copy", "(II)V"⟩
abbrev cX5_keep : ByteArray := prog_7_method_54_code
def yX5_keep : MethodName := ⟨RX5, "keep", "(I)I"⟩
abbrev cX5_back : ByteArray := prog_7_method_55_code
def yX5_back : MethodName := ⟨RX5, "back", "(I)I"⟩
abbrev cX5_count : ByteArray := prog_7_method_56_code
def yX5_count : MethodName := ⟨RX5, "count", "(I)I"⟩
abbrev cX5_trace : ByteArray := prog_7_method_57_code
def yX5_trace : MethodName := ⟨RX5, "trace", "()J"⟩
def RJ9 : String := "java/lang/Math"
def TJ9 : u_T := fun k => match k with
  | _ => ("", "", "", false)
def tyJ9 : Nat → FieldType := fun k => match k with
  | _ => .int
abbrev wsJ90 : List Cond := u_ws RJ9 TJ9 0
theorem nmJ9 : ∀ a, a < 0 → ∀ b, b < 0 → a ≠ b → (TJ9 a).2.1 ≠ (TJ9 b).2.1 := by decide +kernel
theorem tyJ9_ok : ∀ k, k < 0 → parseFieldDescriptor (TJ9 k).2.2.1 = some (tyJ9 k) := by decide +kernel
abbrev cJ9_abs_0f7a4 : ByteArray := prog_8_method_59_code
def yJ9_abs_0f7a4 : MethodName := ⟨RJ9, "abs", "(I)I"⟩
abbrev cJ9_max_7cf53 : ByteArray := prog_8_method_65_code
def yJ9_max_7cf53 : MethodName := ⟨RJ9, "max", "(II)I"⟩
abbrev cJ9_min_7cf53 : ByteArray := prog_8_method_69_code
def yJ9_min_7cf53 : MethodName := ⟨RJ9, "min", "(II)I"⟩
def RJ0 : String := "java/lang/String"
def TJ0 : u_T := fun k => match k with
  | _ => ("", "", "", false)
def tyJ0 : Nat → FieldType := fun k => match k with
  | _ => .int
abbrev wsJ00 : List Cond := u_ws RJ0 TJ0 0
theorem nmJ0 : ∀ a, a < 0 → ∀ b, b < 0 → a ≠ b → (TJ0 a).2.1 ≠ (TJ0 b).2.1 := by decide +kernel
theorem tyJ0_ok : ∀ k, k < 0 → parseFieldDescriptor (TJ0 k).2.2.1 = some (tyJ0 k) := by decide +kernel
abbrev cJ0_length_8abf5 : ByteArray := prog_9_method_54_code
def yJ0_length_8abf5 : MethodName := ⟨RJ0, "length", "()I"⟩
abbrev cJ0_charAt_5068e : ByteArray := prog_9_method_56_code
def yJ0_charAt_5068e : MethodName := ⟨RJ0, "charAt", "(I)C"⟩
abbrev cJ0_coder_7d493 : ByteArray := prog_9_method_152_code
def yJ0_coder_7d493 : MethodName := ⟨RJ0, "coder", "()B"⟩
abbrev cJ0_isLatin1_aae02 : ByteArray := prog_9_method_154_code
def yJ0_isLatin1_aae02 : MethodName := ⟨RJ0, "isLatin1", "()Z"⟩
abbrev cJ0_checkIndex_df160 : ByteArray := prog_9_method_155_code
def yJ0_checkIndex_df160 : MethodName := ⟨RJ0, "checkIndex", "(II)V"⟩
def RJ1 : String := "java/lang/StringLatin1"
def TJ1 : u_T := fun k => match k with
  | _ => ("", "", "", false)
def tyJ1 : Nat → FieldType := fun k => match k with
  | _ => .int
abbrev wsJ10 : List Cond := u_ws RJ1 TJ1 0
theorem nmJ1 : ∀ a, a < 0 → ∀ b, b < 0 → a ≠ b → (TJ1 a).2.1 ≠ (TJ1 b).2.1 := by decide +kernel
theorem tyJ1_ok : ∀ k, k < 0 → parseFieldDescriptor (TJ1 k).2.2.1 = some (tyJ1 k) := by decide +kernel
abbrev cJ1_charAt_3b067 : ByteArray := prog_10_method_2_code
def yJ1_charAt_3b067 : MethodName := ⟨RJ1, "charAt", "([BI)C"⟩
def RJ2 : String := "java/lang/StringUTF16"
def TJ2 : u_T := fun k => match k with
  | _ => ("", "", "", false)
def tyJ2 : Nat → FieldType := fun k => match k with
  | _ => .int
abbrev wsJ20 : List Cond := u_ws RJ2 TJ2 0
theorem nmJ2 : ∀ a, a < 0 → ∀ b, b < 0 → a ≠ b → (TJ2 a).2.1 ≠ (TJ2 b).2.1 := by decide +kernel
theorem tyJ2_ok : ∀ k, k < 0 → parseFieldDescriptor (TJ2 k).2.2.1 = some (tyJ2 k) := by decide +kernel
abbrev cJ2_getChar_3b067 : ByteArray := prog_11_method_5_code
def yJ2_getChar_3b067 : MethodName := ⟨RJ2, "getChar", "([BI)C"⟩
abbrev cJ2_length_9d52b : ByteArray := prog_11_method_6_code
def yJ2_length_9d52b : MethodName := ⟨RJ2, "length", "([B)I"⟩
abbrev cJ2_charAt_3b067 : ByteArray := prog_11_method_83_code
def yJ2_charAt_3b067 : MethodName := ⟨RJ2, "charAt", "([BI)C"⟩
abbrev cJ2_checkIndex_2214a : ByteArray := prog_11_method_91_code
def yJ2_checkIndex_2214a : MethodName := ⟨RJ2, "checkIndex", "(I[B)V"⟩
def RJ3 : String := "jdk/internal/util/Preconditions"
def TJ3 : u_T := fun k => match k with
  | _ => ("", "", "", false)
def tyJ3 : Nat → FieldType := fun k => match k with
  | _ => .int
abbrev wsJ30 : List Cond := u_ws RJ3 TJ3 0
theorem nmJ3 : ∀ a, a < 0 → ∀ b, b < 0 → a ≠ b → (TJ3 a).2.1 ≠ (TJ3 b).2.1 := by decide +kernel
theorem tyJ3_ok : ∀ k, k < 0 → parseFieldDescriptor (TJ3 k).2.2.1 = some (tyJ3 k) := by decide +kernel
abbrev cJ3_checkIndex_8e157 : ByteArray := prog_12_method_11_code
def yJ3_checkIndex_8e157 : MethodName := ⟨RJ3, "checkIndex", "(IILjava/util/function/BiFunction;)I"⟩
def RL : String := "ThirstScalesLaw"
abbrev cL_law : ByteArray := code
def yL_law : MethodName := ⟨RL, "law", "([I)Z"⟩
