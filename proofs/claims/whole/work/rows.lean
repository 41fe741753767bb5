section
-- ===== PART A: goes FIRST, ahead of the names: the tables' words, and 'selects' of the private methods out of them =====
/-- a private method of a class that the tables say can be made, by its rows of tables_1 -/
def lw_okq (q : MethodName × Nat) : Prop := (q.1.cls ≠ "java/lang/invoke/MethodHandle" ∧ q.1.cls ≠ "java/lang/invoke/VarHandle") ∧ Cond.instantiable q.1.cls q.2 ∈ tables_1 ∧ Cond.privateMethod q.1 ∈ tables_1 ∧ Cond.instanceMethod q.1 ∈ tables_1
theorem lw_p0 : lw_okq (⟨"ThirstScales$Reader", "beginAnew", "()V"⟩, 11) := ⟨⟨by decide +kernel, by decide +kernel⟩, List.mem_of_getElem? (i := 21) (by decide +kernel), List.mem_of_getElem? (i := 169) (by decide +kernel), List.mem_of_getElem? (i := 170) (by decide +kernel)⟩
theorem lw_p1 : lw_okq (⟨"ThirstScales$Reader", "readToken", "()V"⟩, 11) := ⟨⟨by decide +kernel, by decide +kernel⟩, List.mem_of_getElem? (i := 21) (by decide +kernel), List.mem_of_getElem? (i := 174) (by decide +kernel), List.mem_of_getElem? (i := 175) (by decide +kernel)⟩
theorem lw_p2 : lw_okq (⟨"ThirstScales$Reader", "readDigits", "()V"⟩, 11) := ⟨⟨by decide +kernel, by decide +kernel⟩, List.mem_of_getElem? (i := 21) (by decide +kernel), List.mem_of_getElem? (i := 186) (by decide +kernel), List.mem_of_getElem? (i := 187) (by decide +kernel)⟩
theorem lw_p3 : lw_okq (⟨"ThirstScales$Reader", "readLetters", "()V"⟩, 11) := ⟨⟨by decide +kernel, by decide +kernel⟩, List.mem_of_getElem? (i := 21) (by decide +kernel), List.mem_of_getElem? (i := 193) (by decide +kernel), List.mem_of_getElem? (i := 194) (by decide +kernel)⟩
theorem lw_p4 : lw_okq (⟨"ThirstScales$Reader", "isWord", "(Ljava/lang/String;)Z"⟩, 11) := ⟨⟨by decide +kernel, by decide +kernel⟩, List.mem_of_getElem? (i := 21) (by decide +kernel), List.mem_of_getElem? (i := 198) (by decide +kernel), List.mem_of_getElem? (i := 199) (by decide +kernel)⟩
theorem lw_p5 : lw_okq (⟨"ThirstScales$Reader", "readsLoad", "()Z"⟩, 11) := ⟨⟨by decide +kernel, by decide +kernel⟩, List.mem_of_getElem? (i := 21) (by decide +kernel), List.mem_of_getElem? (i := 252) (by decide +kernel), List.mem_of_getElem? (i := 253) (by decide +kernel)⟩
theorem lw_p6 : lw_okq (⟨"ThirstScales$Reader", "readsNumber", "(II)Z"⟩, 11) := ⟨⟨by decide +kernel, by decide +kernel⟩, List.mem_of_getElem? (i := 21) (by decide +kernel), List.mem_of_getElem? (i := 256) (by decide +kernel), List.mem_of_getElem? (i := 257) (by decide +kernel)⟩
theorem lw_p7 : lw_okq (⟨"ThirstScales$Reader", "readsEndOfItem", "()Z"⟩, 11) := ⟨⟨by decide +kernel, by decide +kernel⟩, List.mem_of_getElem? (i := 21) (by decide +kernel), List.mem_of_getElem? (i := 261) (by decide +kernel), List.mem_of_getElem? (i := 262) (by decide +kernel)⟩
theorem lw_p8 : lw_okq (⟨"ThirstScales$Reader", "readsTaster", "()Z"⟩, 11) := ⟨⟨by decide +kernel, by decide +kernel⟩, List.mem_of_getElem? (i := 21) (by decide +kernel), List.mem_of_getElem? (i := 265) (by decide +kernel), List.mem_of_getElem? (i := 266) (by decide +kernel)⟩
theorem lw_p9 : lw_okq (⟨"ThirstScales$Reader", "readsHeat", "()Z"⟩, 11) := ⟨⟨by decide +kernel, by decide +kernel⟩, List.mem_of_getElem? (i := 21) (by decide +kernel), List.mem_of_getElem? (i := 278) (by decide +kernel), List.mem_of_getElem? (i := 279) (by decide +kernel)⟩
theorem lw_p10 : lw_okq (⟨"ThirstScales", "isLoad", "(I)Z"⟩, 10) := ⟨⟨by decide +kernel, by decide +kernel⟩, List.mem_of_getElem? (i := 13) (by decide +kernel), List.mem_of_getElem? (i := 305) (by decide +kernel), List.mem_of_getElem? (i := 306) (by decide +kernel)⟩
theorem lw_p11 : lw_okq (⟨"ThirstScales", "isTaster", "(I)Z"⟩, 10) := ⟨⟨by decide +kernel, by decide +kernel⟩, List.mem_of_getElem? (i := 13) (by decide +kernel), List.mem_of_getElem? (i := 318) (by decide +kernel), List.mem_of_getElem? (i := 319) (by decide +kernel)⟩
theorem lw_p12 : lw_okq (⟨"ThirstScales", "facts", "()I"⟩, 10) := ⟨⟨by decide +kernel, by decide +kernel⟩, List.mem_of_getElem? (i := 13) (by decide +kernel), List.mem_of_getElem? (i := 341) (by decide +kernel), List.mem_of_getElem? (i := 342) (by decide +kernel)⟩
theorem lw_p13 : lw_okq (⟨"ThirstScales", "thirst", "(II)I"⟩, 10) := ⟨⟨by decide +kernel, by decide +kernel⟩, List.mem_of_getElem? (i := 13) (by decide +kernel), List.mem_of_getElem? (i := 345) (by decide +kernel), List.mem_of_getElem? (i := 346) (by decide +kernel)⟩
theorem lw_p14 : lw_okq (⟨"ThirstScales", "addFact", "(IIII)V"⟩, 10) := ⟨⟨by decide +kernel, by decide +kernel⟩, List.mem_of_getElem? (i := 13) (by decide +kernel), List.mem_of_getElem? (i := 349) (by decide +kernel), List.mem_of_getElem? (i := 350) (by decide +kernel)⟩
theorem lw_p15 : lw_okq (⟨"ThirstScales", "addLick", "(I)V"⟩, 10) := ⟨⟨by decide +kernel, by decide +kernel⟩, List.mem_of_getElem? (i := 13) (by decide +kernel), List.mem_of_getElem? (i := 353) (by decide +kernel), List.mem_of_getElem? (i := 354) (by decide +kernel)⟩
def lw_privs_1 : List (MethodName × Nat) := [(⟨"ThirstScales$Reader", "beginAnew", "()V"⟩, 11), (⟨"ThirstScales$Reader", "readToken", "()V"⟩, 11), (⟨"ThirstScales$Reader", "readDigits", "()V"⟩, 11), (⟨"ThirstScales$Reader", "readLetters", "()V"⟩, 11), (⟨"ThirstScales$Reader", "isWord", "(Ljava/lang/String;)Z"⟩, 11), (⟨"ThirstScales$Reader", "readsLoad", "()Z"⟩, 11), (⟨"ThirstScales$Reader", "readsNumber", "(II)Z"⟩, 11), (⟨"ThirstScales$Reader", "readsEndOfItem", "()Z"⟩, 11), (⟨"ThirstScales$Reader", "readsTaster", "()Z"⟩, 11), (⟨"ThirstScales$Reader", "readsHeat", "()Z"⟩, 11), (⟨"ThirstScales", "isLoad", "(I)Z"⟩, 10), (⟨"ThirstScales", "isTaster", "(I)Z"⟩, 10), (⟨"ThirstScales", "facts", "()I"⟩, 10), (⟨"ThirstScales", "thirst", "(II)I"⟩, 10), (⟨"ThirstScales", "addFact", "(IIII)V"⟩, 10), (⟨"ThirstScales", "addLick", "(I)V"⟩, 10)]
theorem lw_r1 : ∀ q ∈ lw_privs_1, lw_okq q := List.forall_mem_cons.mpr ⟨lw_p0, List.forall_mem_cons.mpr ⟨lw_p1, List.forall_mem_cons.mpr ⟨lw_p2, List.forall_mem_cons.mpr ⟨lw_p3, List.forall_mem_cons.mpr ⟨lw_p4, List.forall_mem_cons.mpr ⟨lw_p5, List.forall_mem_cons.mpr ⟨lw_p6, List.forall_mem_cons.mpr ⟨lw_p7, List.forall_mem_cons.mpr ⟨lw_p8, List.forall_mem_cons.mpr ⟨lw_p9, List.forall_mem_cons.mpr ⟨lw_p10, List.forall_mem_cons.mpr ⟨lw_p11, List.forall_mem_cons.mpr ⟨lw_p12, List.forall_mem_cons.mpr ⟨lw_p13, List.forall_mem_cons.mpr ⟨lw_p14, List.forall_mem_cons.mpr ⟨lw_p15, fun _ h => absurd h List.not_mem_nil⟩⟩⟩⟩⟩⟩⟩⟩⟩⟩⟩⟩⟩⟩⟩⟩
theorem lw_p16 : lw_okq (⟨"ThirstScales", "fact", "(II)I"⟩, 10) := ⟨⟨by decide +kernel, by decide +kernel⟩, List.mem_of_getElem? (i := 13) (by decide +kernel), List.mem_of_getElem? (i := 384) (by decide +kernel), List.mem_of_getElem? (i := 385) (by decide +kernel)⟩
theorem lw_p17 : lw_okq (⟨"ThirstScales", "greatestOf", "(I)I"⟩, 10) := ⟨⟨by decide +kernel, by decide +kernel⟩, List.mem_of_getElem? (i := 13) (by decide +kernel), List.mem_of_getElem? (i := 397) (by decide +kernel), List.mem_of_getElem? (i := 398) (by decide +kernel)⟩
theorem lw_p18 : lw_okq (⟨"ThirstScales", "canWeigh", "(II)Z"⟩, 10) := ⟨⟨by decide +kernel, by decide +kernel⟩, List.mem_of_getElem? (i := 13) (by decide +kernel), List.mem_of_getElem? (i := 401) (by decide +kernel), List.mem_of_getElem? (i := 402) (by decide +kernel)⟩
theorem lw_p19 : lw_okq (⟨"ThirstScales", "drinksIn", "(II)I"⟩, 10) := ⟨⟨by decide +kernel, by decide +kernel⟩, List.mem_of_getElem? (i := 13) (by decide +kernel), List.mem_of_getElem? (i := 405) (by decide +kernel), List.mem_of_getElem? (i := 406) (by decide +kernel)⟩
theorem lw_p20 : lw_okq (⟨"ThirstScales", "leastOf", "(I)I"⟩, 10) := ⟨⟨by decide +kernel, by decide +kernel⟩, List.mem_of_getElem? (i := 13) (by decide +kernel), List.mem_of_getElem? (i := 409) (by decide +kernel), List.mem_of_getElem? (i := 410) (by decide +kernel)⟩
theorem lw_p21 : lw_okq (⟨"ThirstScales", "leftAtWorst", "(III)I"⟩, 10) := ⟨⟨by decide +kernel, by decide +kernel⟩, List.mem_of_getElem? (i := 13) (by decide +kernel), List.mem_of_getElem? (i := 417) (by decide +kernel), List.mem_of_getElem? (i := 418) (by decide +kernel)⟩
theorem lw_p22 : lw_okq (⟨"ThirstScales", "endOfSpan", "(IIII)I"⟩, 10) := ⟨⟨by decide +kernel, by decide +kernel⟩, List.mem_of_getElem? (i := 13) (by decide +kernel), List.mem_of_getElem? (i := 421) (by decide +kernel), List.mem_of_getElem? (i := 422) (by decide +kernel)⟩
theorem lw_p23 : lw_okq (⟨"ThirstScales", "isEnough", "(IIIII)Z"⟩, 10) := ⟨⟨by decide +kernel, by decide +kernel⟩, List.mem_of_getElem? (i := 13) (by decide +kernel), List.mem_of_getElem? (i := 429) (by decide +kernel), List.mem_of_getElem? (i := 430) (by decide +kernel)⟩
theorem lw_p24 : lw_okq (⟨"ThirstScales", "isEnoughBy", "(IIIIII)Z"⟩, 10) := ⟨⟨by decide +kernel, by decide +kernel⟩, List.mem_of_getElem? (i := 13) (by decide +kernel), List.mem_of_getElem? (i := 433) (by decide +kernel), List.mem_of_getElem? (i := 434) (by decide +kernel)⟩
theorem lw_p25 : lw_okq (⟨"ThirstScales", "toldTastings", "()I"⟩, 10) := ⟨⟨by decide +kernel, by decide +kernel⟩, List.mem_of_getElem? (i := 13) (by decide +kernel), List.mem_of_getElem? (i := 454) (by decide +kernel), List.mem_of_getElem? (i := 455) (by decide +kernel)⟩
theorem lw_p26 : lw_okq (⟨"ThirstScales", "isAsTold", "(I)Z"⟩, 10) := ⟨⟨by decide +kernel, by decide +kernel⟩, List.mem_of_getElem? (i := 13) (by decide +kernel), List.mem_of_getElem? (i := 466) (by decide +kernel), List.mem_of_getElem? (i := 467) (by decide +kernel)⟩
theorem lw_p27 : lw_okq (⟨"ThirstScales", "markOfTaster", "(I)I"⟩, 10) := ⟨⟨by decide +kernel, by decide +kernel⟩, List.mem_of_getElem? (i := 13) (by decide +kernel), List.mem_of_getElem? (i := 490) (by decide +kernel), List.mem_of_getElem? (i := 491) (by decide +kernel)⟩
theorem lw_p28 : lw_okq (⟨"ThirstScales", "markOfCamel", "(I)I"⟩, 10) := ⟨⟨by decide +kernel, by decide +kernel⟩, List.mem_of_getElem? (i := 13) (by decide +kernel), List.mem_of_getElem? (i := 494) (by decide +kernel), List.mem_of_getElem? (i := 495) (by decide +kernel)⟩
theorem lw_p29 : lw_okq (⟨"ThirstScales", "markOfChild", "(I)I"⟩, 10) := ⟨⟨by decide +kernel, by decide +kernel⟩, List.mem_of_getElem? (i := 13) (by decide +kernel), List.mem_of_getElem? (i := 499) (by decide +kernel), List.mem_of_getElem? (i := 500) (by decide +kernel)⟩
theorem lw_p30 : lw_okq (⟨"ThirstScales", "markOfFeverish", "(I)I"⟩, 10) := ⟨⟨by decide +kernel, by decide +kernel⟩, List.mem_of_getElem? (i := 13) (by decide +kernel), List.mem_of_getElem? (i := 504) (by decide +kernel), List.mem_of_getElem? (i := 505) (by decide +kernel)⟩
theorem lw_p31 : lw_okq (⟨"ThirstScales", "markOfInspector", "(I)I"⟩, 10) := ⟨⟨by decide +kernel, by decide +kernel⟩, List.mem_of_getElem? (i := 13) (by decide +kernel), List.mem_of_getElem? (i := 509) (by decide +kernel), List.mem_of_getElem? (i := 510) (by decide +kernel)⟩
def lw_privs_2 : List (MethodName × Nat) := [(⟨"ThirstScales", "fact", "(II)I"⟩, 10), (⟨"ThirstScales", "greatestOf", "(I)I"⟩, 10), (⟨"ThirstScales", "canWeigh", "(II)Z"⟩, 10), (⟨"ThirstScales", "drinksIn", "(II)I"⟩, 10), (⟨"ThirstScales", "leastOf", "(I)I"⟩, 10), (⟨"ThirstScales", "leftAtWorst", "(III)I"⟩, 10), (⟨"ThirstScales", "endOfSpan", "(IIII)I"⟩, 10), (⟨"ThirstScales", "isEnough", "(IIIII)Z"⟩, 10), (⟨"ThirstScales", "isEnoughBy", "(IIIIII)Z"⟩, 10), (⟨"ThirstScales", "toldTastings", "()I"⟩, 10), (⟨"ThirstScales", "isAsTold", "(I)Z"⟩, 10), (⟨"ThirstScales", "markOfTaster", "(I)I"⟩, 10), (⟨"ThirstScales", "markOfCamel", "(I)I"⟩, 10), (⟨"ThirstScales", "markOfChild", "(I)I"⟩, 10), (⟨"ThirstScales", "markOfFeverish", "(I)I"⟩, 10), (⟨"ThirstScales", "markOfInspector", "(I)I"⟩, 10)]
theorem lw_r2 : ∀ q ∈ lw_privs_2, lw_okq q := List.forall_mem_cons.mpr ⟨lw_p16, List.forall_mem_cons.mpr ⟨lw_p17, List.forall_mem_cons.mpr ⟨lw_p18, List.forall_mem_cons.mpr ⟨lw_p19, List.forall_mem_cons.mpr ⟨lw_p20, List.forall_mem_cons.mpr ⟨lw_p21, List.forall_mem_cons.mpr ⟨lw_p22, List.forall_mem_cons.mpr ⟨lw_p23, List.forall_mem_cons.mpr ⟨lw_p24, List.forall_mem_cons.mpr ⟨lw_p25, List.forall_mem_cons.mpr ⟨lw_p26, List.forall_mem_cons.mpr ⟨lw_p27, List.forall_mem_cons.mpr ⟨lw_p28, List.forall_mem_cons.mpr ⟨lw_p29, List.forall_mem_cons.mpr ⟨lw_p30, List.forall_mem_cons.mpr ⟨lw_p31, fun _ h => absurd h List.not_mem_nil⟩⟩⟩⟩⟩⟩⟩⟩⟩⟩⟩⟩⟩⟩⟩⟩
theorem lw_p32 : lw_okq (⟨"ThirstScales", "markOfWell", "(I)I"⟩, 10) := ⟨⟨by decide +kernel, by decide +kernel⟩, List.mem_of_getElem? (i := 13) (by decide +kernel), List.mem_of_getElem? (i := 514) (by decide +kernel), List.mem_of_getElem? (i := 515) (by decide +kernel)⟩
theorem lw_p33 : lw_okq (⟨"ThirstScales", "imageAt", "(I)LThirstScales$Now;"⟩, 10) := ⟨⟨by decide +kernel, by decide +kernel⟩, List.mem_of_getElem? (i := 13) (by decide +kernel), List.mem_of_getElem? (i := 523) (by decide +kernel), List.mem_of_getElem? (i := 524) (by decide +kernel)⟩
theorem lw_p34 : lw_okq (⟨"ThirstScalesModel", "step", "()V"⟩, 21) := ⟨⟨by decide +kernel, by decide +kernel⟩, List.mem_of_getElem? (i := 544) (by decide +kernel), List.mem_of_getElem? (i := 631) (by decide +kernel), List.mem_of_getElem? (i := 632) (by decide +kernel)⟩
theorem lw_p35 : lw_okq (⟨"ThirstScalesModel", "here", "()I"⟩, 21) := ⟨⟨by decide +kernel, by decide +kernel⟩, List.mem_of_getElem? (i := 544) (by decide +kernel), List.mem_of_getElem? (i := 635) (by decide +kernel), List.mem_of_getElem? (i := 636) (by decide +kernel)⟩
theorem lw_p36 : lw_okq (⟨"ThirstScalesModel", "readItem", "()V"⟩, 21) := ⟨⟨by decide +kernel, by decide +kernel⟩, List.mem_of_getElem? (i := 544) (by decide +kernel), List.mem_of_getElem? (i := 642) (by decide +kernel), List.mem_of_getElem? (i := 643) (by decide +kernel)⟩
theorem lw_p37 : lw_okq (⟨"ThirstScalesModel", "due", "(Z)I"⟩, 21) := ⟨⟨by decide +kernel, by decide +kernel⟩, List.mem_of_getElem? (i := 544) (by decide +kernel), List.mem_of_getElem? (i := 646) (by decide +kernel), List.mem_of_getElem? (i := 647) (by decide +kernel)⟩
theorem lw_p38 : lw_okq (⟨"ThirstScalesModel", "number", "(II)I"⟩, 21) := ⟨⟨by decide +kernel, by decide +kernel⟩, List.mem_of_getElem? (i := 544) (by decide +kernel), List.mem_of_getElem? (i := 650) (by decide +kernel), List.mem_of_getElem? (i := 651) (by decide +kernel)⟩
theorem lw_p39 : lw_okq (⟨"ThirstScalesModel", "isLoad", "(I)Z"⟩, 21) := ⟨⟨by decide +kernel, by decide +kernel⟩, List.mem_of_getElem? (i := 544) (by decide +kernel), List.mem_of_getElem? (i := 658) (by decide +kernel), List.mem_of_getElem? (i := 659) (by decide +kernel)⟩
theorem lw_p40 : lw_okq (⟨"ThirstScalesModel", "isTaster", "(I)Z"⟩, 21) := ⟨⟨by decide +kernel, by decide +kernel⟩, List.mem_of_getElem? (i := 544) (by decide +kernel), List.mem_of_getElem? (i := 666) (by decide +kernel), List.mem_of_getElem? (i := 667) (by decide +kernel)⟩
theorem lw_p41 : lw_okq (⟨"ThirstScalesModel", "cupsOf", "(IIII)I"⟩, 21) := ⟨⟨by decide +kernel, by decide +kernel⟩, List.mem_of_getElem? (i := 544) (by decide +kernel), List.mem_of_getElem? (i := 674) (by decide +kernel), List.mem_of_getElem? (i := 675) (by decide +kernel)⟩
theorem lw_p42 : lw_okq (⟨"ThirstScalesModel", "know", "(IIII)V"⟩, 21) := ⟨⟨by decide +kernel, by decide +kernel⟩, List.mem_of_getElem? (i := 544) (by decide +kernel), List.mem_of_getElem? (i := 685) (by decide +kernel), List.mem_of_getElem? (i := 686) (by decide +kernel)⟩
theorem lw_p43 : lw_okq (⟨"ThirstScalesModel", "canBeOf", "(I)J"⟩, 21) := ⟨⟨by decide +kernel, by decide +kernel⟩, List.mem_of_getElem? (i := 544) (by decide +kernel), List.mem_of_getElem? (i := 717) (by decide +kernel), List.mem_of_getElem? (i := 718) (by decide +kernel)⟩
theorem lw_p44 : lw_okq (⟨"ThirstScalesModel", "worst", "(JI)I"⟩, 21) := ⟨⟨by decide +kernel, by decide +kernel⟩, List.mem_of_getElem? (i := 544) (by decide +kernel), List.mem_of_getElem? (i := 734) (by decide +kernel), List.mem_of_getElem? (i := 735) (by decide +kernel)⟩
theorem lw_p45 : lw_okq (⟨"ThirstScalesModel", "part", "(JI)J"⟩, 21) := ⟨⟨by decide +kernel, by decide +kernel⟩, List.mem_of_getElem? (i := 544) (by decide +kernel), List.mem_of_getElem? (i := 738) (by decide +kernel), List.mem_of_getElem? (i := 739) (by decide +kernel)⟩
theorem lw_p46 : lw_okq (⟨"ThirstScalesModel", "isEnoughByOne", "(JI)Z"⟩, 21) := ⟨⟨by decide +kernel, by decide +kernel⟩, List.mem_of_getElem? (i := 544) (by decide +kernel), List.mem_of_getElem? (i := 747) (by decide +kernel), List.mem_of_getElem? (i := 748) (by decide +kernel)⟩
theorem lw_p47 : lw_okq (⟨"ThirstScalesModel", "isEnoughByTwo", "(JI)Z"⟩, 21) := ⟨⟨by decide +kernel, by decide +kernel⟩, List.mem_of_getElem? (i := 544) (by decide +kernel), List.mem_of_getElem? (i := 751) (by decide +kernel), List.mem_of_getElem? (i := 752) (by decide +kernel)⟩
def lw_privs_3 : List (MethodName × Nat) := [(⟨"ThirstScales", "markOfWell", "(I)I"⟩, 10), (⟨"ThirstScales", "imageAt", "(I)LThirstScales$Now;"⟩, 10), (⟨"ThirstScalesModel", "step", "()V"⟩, 21), (⟨"ThirstScalesModel", "here", "()I"⟩, 21), (⟨"ThirstScalesModel", "readItem", "()V"⟩, 21), (⟨"ThirstScalesModel", "due", "(Z)I"⟩, 21), (⟨"ThirstScalesModel", "number", "(II)I"⟩, 21), (⟨"ThirstScalesModel", "isLoad", "(I)Z"⟩, 21), (⟨"ThirstScalesModel", "isTaster", "(I)Z"⟩, 21), (⟨"ThirstScalesModel", "cupsOf", "(IIII)I"⟩, 21), (⟨"ThirstScalesModel", "know", "(IIII)V"⟩, 21), (⟨"ThirstScalesModel", "canBeOf", "(I)J"⟩, 21), (⟨"ThirstScalesModel", "worst", "(JI)I"⟩, 21), (⟨"ThirstScalesModel", "part", "(JI)J"⟩, 21), (⟨"ThirstScalesModel", "isEnoughByOne", "(JI)Z"⟩, 21), (⟨"ThirstScalesModel", "isEnoughByTwo", "(JI)Z"⟩, 21)]
theorem lw_r3 : ∀ q ∈ lw_privs_3, lw_okq q := List.forall_mem_cons.mpr ⟨lw_p32, List.forall_mem_cons.mpr ⟨lw_p33, List.forall_mem_cons.mpr ⟨lw_p34, List.forall_mem_cons.mpr ⟨lw_p35, List.forall_mem_cons.mpr ⟨lw_p36, List.forall_mem_cons.mpr ⟨lw_p37, List.forall_mem_cons.mpr ⟨lw_p38, List.forall_mem_cons.mpr ⟨lw_p39, List.forall_mem_cons.mpr ⟨lw_p40, List.forall_mem_cons.mpr ⟨lw_p41, List.forall_mem_cons.mpr ⟨lw_p42, List.forall_mem_cons.mpr ⟨lw_p43, List.forall_mem_cons.mpr ⟨lw_p44, List.forall_mem_cons.mpr ⟨lw_p45, List.forall_mem_cons.mpr ⟨lw_p46, List.forall_mem_cons.mpr ⟨lw_p47, fun _ h => absurd h List.not_mem_nil⟩⟩⟩⟩⟩⟩⟩⟩⟩⟩⟩⟩⟩⟩⟩⟩
theorem lw_p48 : lw_okq (⟨"ThirstScalesModel", "isEnoughByThree", "(JI)Z"⟩, 21) := ⟨⟨by decide +kernel, by decide +kernel⟩, List.mem_of_getElem? (i := 544) (by decide +kernel), List.mem_of_getElem? (i := 755) (by decide +kernel), List.mem_of_getElem? (i := 756) (by decide +kernel)⟩
theorem lw_p49 : lw_okq (⟨"ThirstScalesModel", "isAsTold", "(I)Z"⟩, 21) := ⟨⟨by decide +kernel, by decide +kernel⟩, List.mem_of_getElem? (i := 544) (by decide +kernel), List.mem_of_getElem? (i := 778) (by decide +kernel), List.mem_of_getElem? (i := 779) (by decide +kernel)⟩
theorem lw_p50 : lw_okq (⟨"ThirstScalesModel", "copy", "(II)V"⟩, 21) := ⟨⟨by decide +kernel, by decide +kernel⟩, List.mem_of_getElem? (i := 544) (by decide +kernel), List.mem_of_getElem? (i := 820) (by decide +kernel), List.mem_of_getElem? (i := 821) (by decide +kernel)⟩
def lw_privs_4 : List (MethodName × Nat) := [(⟨"ThirstScalesModel", "isEnoughByThree", "(JI)Z"⟩, 21), (⟨"ThirstScalesModel", "isAsTold", "(I)Z"⟩, 21), (⟨"ThirstScalesModel", "copy", "(II)V"⟩, 21)]
theorem lw_r4 : ∀ q ∈ lw_privs_4, lw_okq q := List.forall_mem_cons.mpr ⟨lw_p48, List.forall_mem_cons.mpr ⟨lw_p49, List.forall_mem_cons.mpr ⟨lw_p50, fun _ h => absurd h List.not_mem_nil⟩⟩⟩
def lw_privs : List (MethodName × Nat) := lw_privs_1 ++ (lw_privs_2 ++ (lw_privs_3 ++ (lw_privs_4)))
def lw_tbl : List Cond := k2_sels lw_privs ++ tables_1
theorem lw_privs_ok : ∀ q ∈ lw_privs, lw_okq q := by
  show ∀ q ∈ lw_privs_1 ++ (lw_privs_2 ++ (lw_privs_3 ++ (lw_privs_4))), lw_okq q
  exact List.forall_mem_append.mpr ⟨lw_r1, List.forall_mem_append.mpr ⟨lw_r2, List.forall_mem_append.mpr ⟨lw_r3, lw_r4⟩⟩⟩
def RX0 : String := "ThirstScales$Law"
def TX0 : u_T := fun k => match k with
  | _ => ("", "", "", false)
def tyX0 : Nat → FieldType := fun k => match k with
  | _ => .int
abbrev wsX00 : List Cond := u_ws RX0 TX0 0
theorem nmX0 : ∀ a, a < 0 → ∀ b, b < 0 → a ≠ b → (TX0 a).2.1 ≠ (TX0 b).2.1 := by decide +kernel
theorem tyX0_ok : ∀ k, k < 0 → parseFieldDescriptor (TX0 k).2.2.1 = some (tyX0 k) := by decide +kernel
abbrev cX0_numbered : ByteArray := prog_2_method_2_code
def yX0_numbered : MethodName := ⟨RX0, "numbered", "(IIII)I"⟩
abbrev cX0_part : ByteArray := prog_2_method_3_code
def yX0_part : MethodName := ⟨RX0, "part", "(II)I"⟩
abbrev cX0_least : ByteArray := prog_2_method_4_code
def yX0_least : MethodName := ⟨RX0, "least", "(I)I"⟩
abbrev cX0_most : ByteArray := prog_2_method_5_code
def yX0_most : MethodName := ⟨RX0, "most", "(I)I"⟩
abbrev cX0_drinks : ByteArray := prog_2_method_6_code
def yX0_drinks : MethodName := ⟨RX0, "drinks", "(IIII)I"⟩
def RX1 : String := "ThirstScales$Now"
def TX1 : u_T := fun k => match k with
  | 0 => ("ThirstScales$Now", "licks", "LThirstScales$Row;", true)
  | 1 => ("ThirstScales$Now", "facts", "LThirstScales$Row;", true)
  | _ => ("ThirstScales$Now", "warmth", "I", false)
def tyX1 : Nat → FieldType := fun k => match k with
  | 0 => .object "ThirstScales$Row"
  | 1 => .object "ThirstScales$Row"
  | _ => .int
abbrev wsX10 : List Cond := u_ws RX1 TX1 3
theorem nmX1 : ∀ a, a < 3 → ∀ b, b < 3 → a ≠ b → (TX1 a).2.1 ≠ (TX1 b).2.1 := by decide +kernel
theorem tyX1_ok : ∀ k, k < 3 → parseFieldDescriptor (TX1 k).2.2.1 = some (tyX1 k) := by decide +kernel
abbrev cX1_init : ByteArray := prog_3_method_1_code
def yX1_init : MethodName := ⟨RX1, "<init>", "()V"⟩
abbrev cX1_begin : ByteArray := prog_3_method_2_code
def yX1_begin : MethodName := ⟨RX1, "begin", "(II)V"⟩
abbrev cX1_copyFrom : ByteArray := prog_3_method_3_code
def yX1_copyFrom : MethodName := ⟨RX1, "copyFrom", "(LThirstScales$Now;)V"⟩
def RX2 : String := "ThirstScales$Reader"
def TX2 : u_T := fun k => match k with
  | 0 => ("ThirstScales$Reader", "text", "LThirstScales$Row;", true)
  | 1 => ("ThirstScales$Reader", "weights", "LThirstScales$Row;", true)
  | 2 => ("ThirstScales$Reader", "laws", "LThirstScales$Row;", true)
  | 3 => ("ThirstScales$Reader", "warmth", "I", false)
  | 4 => ("ThirstScales$Reader", "items", "I", false)
  | 5 => ("ThirstScales$Reader", "parts", "LThirstScales$Row;", true)
  | 6 => ("ThirstScales$Reader", "heatIsTold", "Z", false)
  | 7 => ("ThirstScales$Reader", "place", "I", false)
  | 8 => ("ThirstScales$Reader", "start", "I", false)
  | 9 => ("ThirstScales$Reader", "token", "I", false)
  | _ => ("ThirstScales$Reader", "value", "I", false)
def tyX2 : Nat → FieldType := fun k => match k with
  | 0 => .object "ThirstScales$Row"
  | 1 => .object "ThirstScales$Row"
  | 2 => .object "ThirstScales$Row"
  | 3 => .int
  | 4 => .int
  | 5 => .object "ThirstScales$Row"
  | 6 => .boolean
  | 7 => .int
  | 8 => .int
  | 9 => .int
  | _ => .int
abbrev wsX20 : List Cond := u_ws RX2 TX2 11
theorem nmX2 : ∀ a, a < 11 → ∀ b, b < 11 → a ≠ b → (TX2 a).2.1 ≠ (TX2 b).2.1 := by decide +kernel
theorem tyX2_ok : ∀ k, k < 11 → parseFieldDescriptor (TX2 k).2.2.1 = some (tyX2 k) := by decide +kernel
abbrev cX2_init : ByteArray := prog_4_method_1_code
def yX2_init : MethodName := ⟨RX2, "<init>", "()V"⟩
abbrev cX2_fault : ByteArray := prog_4_method_2_code
def yX2_fault : MethodName := ⟨RX2, "fault", "()I"⟩
abbrev cX2_readsAll : ByteArray := prog_4_method_3_code
def yX2_readsAll : MethodName := ⟨RX2, "readsAll", "()Z"⟩
abbrev cX2_beginAnew : ByteArray := prog_4_method_4_code
def yX2_beginAnew : MethodName := ⟨RX2, "beginAnew", "()V"⟩
abbrev cX2_readsLoad : ByteArray := prog_4_method_5_code
def yX2_readsLoad : MethodName := ⟨RX2, "readsLoad", "()Z"⟩
abbrev cX2_readsTaster : ByteArray := prog_4_method_6_code
def yX2_readsTaster : MethodName := ⟨RX2, "readsTaster", "()Z"⟩
abbrev cX2_readsHeat : ByteArray := prog_4_method_7_code
def yX2_readsHeat : MethodName := ⟨RX2, "readsHeat", "()Z"⟩
abbrev cX2_readsNumber : ByteArray := prog_4_method_8_code
def yX2_readsNumber : MethodName := ⟨RX2, "readsNumber", "(II)Z"⟩
abbrev cX2_readsEndOfItem : ByteArray := prog_4_method_9_code
def yX2_readsEndOfItem : MethodName := ⟨RX2, "readsEndOfItem", "()Z"⟩
abbrev cX2_readToken : ByteArray := prog_4_method_10_code
def yX2_readToken : MethodName := ⟨RX2, "readToken", "()V"⟩
abbrev cX2_readDigits : ByteArray := prog_4_method_11_code
def yX2_readDigits : MethodName := ⟨RX2, "readDigits", "()V"⟩
abbrev cX2_readLetters : ByteArray := prog_4_method_12_code
def yX2_readLetters : MethodName := ⟨RX2, "readLetters", "()V"⟩
abbrev cX2_isWord : ByteArray := prog_4_method_13_code
def yX2_isWord : MethodName := ⟨RX2, "isWord", "(Ljava/lang/String;)Z"⟩
abbrev cX2_isDigit : ByteArray := prog_4_method_14_code
def yX2_isDigit : MethodName := ⟨RX2, "isDigit", "(I)Z"⟩
abbrev cX2_isLetter : ByteArray := prog_4_method_15_code
def yX2_isLetter : MethodName := ⟨RX2, "isLetter", "(I)Z"⟩
def RX3 : String := "ThirstScales$Row"
def TX3 : u_T := fun k => match k with
  | 0 => ("ThirstScales$Row", "cells", "[I", true)
  | _ => ("ThirstScales$Row", "used", "I", false)
def tyX3 : Nat → FieldType := fun k => match k with
  | 0 => .array .int
  | _ => .int
abbrev wsX30 : List Cond := u_ws RX3 TX3 2
theorem nmX3 : ∀ a, a < 2 → ∀ b, b < 2 → a ≠ b → (TX3 a).2.1 ≠ (TX3 b).2.1 := by decide +kernel
theorem tyX3_ok : ∀ k, k < 2 → parseFieldDescriptor (TX3 k).2.2.1 = some (tyX3 k) := by decide +kernel
abbrev cX3_init : ByteArray := prog_5_method_1_code
def yX3_init : MethodName := ⟨RX3, "<init>", "(I)V"⟩
abbrev cX3_size : ByteArray := prog_5_method_2_code
def yX3_size : MethodName := ⟨RX3, "size", "()I"⟩
abbrev cX3_has : ByteArray := prog_5_method_3_code
def yX3_has : MethodName := ⟨RX3, "has", "(I)Z"⟩
abbrev cX3_at : ByteArray := prog_5_method_4_code
def yX3_at : MethodName := ⟨RX3, "at", "(I)I"⟩
abbrev cX3_put : ByteArray := prog_5_method_5_code
def yX3_put : MethodName := ⟨RX3, "put", "(II)V"⟩
abbrev cX3_add : ByteArray := prog_5_method_6_code
def yX3_add : MethodName := ⟨RX3, "add", "(I)V"⟩
abbrev cX3_cutTo : ByteArray := prog_5_method_7_code
def yX3_cutTo : MethodName := ⟨RX3, "cutTo", "(I)V"⟩
abbrev cX3_copyFrom : ByteArray := prog_5_method_8_code
def yX3_copyFrom : MethodName := ⟨RX3, "copyFrom", "(LThirstScales$Row;)V"⟩
def RX4 : String := "ThirstScales"
def TX4 : u_T := fun k => match k with
  | 0 => ("ThirstScales", "reader", "LThirstScales$Reader;", true)
  | 1 => ("ThirstScales", "weights", "LThirstScales$Row;", true)
  | 2 => ("ThirstScales", "laws", "LThirstScales$Row;", true)
  | 3 => ("ThirstScales", "tastings", "LThirstScales$Row;", true)
  | 4 => ("ThirstScales", "now", "LThirstScales$Now;", true)
  | 5 => ("ThirstScales", "firstImage", "LThirstScales$Now;", true)
  | 6 => ("ThirstScales", "secondImage", "LThirstScales$Now;", true)
  | 7 => ("ThirstScales", "firstIsKept", "Z", false)
  | 8 => ("ThirstScales", "secondIsKept", "Z", false)
  | _ => ("ThirstScales", "marksAsked", "J", false)
def tyX4 : Nat → FieldType := fun k => match k with
  | 0 => .object "ThirstScales$Reader"
  | 1 => .object "ThirstScales$Row"
  | 2 => .object "ThirstScales$Row"
  | 3 => .object "ThirstScales$Row"
  | 4 => .object "ThirstScales$Now"
  | 5 => .object "ThirstScales$Now"
  | 6 => .object "ThirstScales$Now"
  | 7 => .boolean
  | 8 => .boolean
  | _ => .long
abbrev wsX40 : List Cond := u_ws RX4 TX4 10
theorem nmX4 : ∀ a, a < 10 → ∀ b, b < 10 → a ≠ b → (TX4 a).2.1 ≠ (TX4 b).2.1 := by decide +kernel
theorem tyX4_ok : ∀ k, k < 10 → parseFieldDescriptor (TX4 k).2.2.1 = some (tyX4 k) := by decide +kernel
abbrev cX4_init : ByteArray := prog_1_method_1_code
def yX4_init : MethodName := ⟨RX4, "<init>", "()V"⟩
abbrev cX4_type : ByteArray := prog_1_method_2_code
def yX4_type : MethodName := ⟨RX4, "type", "(JI)I"⟩
abbrev cX4_clear : ByteArray := prog_1_method_3_code
def yX4_clear : MethodName := ⟨RX4, "clear", "()I"⟩
abbrev cX4_gate : ByteArray := prog_1_method_4_code
def yX4_gate : MethodName := ⟨RX4, "gate", "()I"⟩
abbrev cX4_load : ByteArray := prog_1_method_5_code
def yX4_load : MethodName := ⟨RX4, "load", "(I)I"⟩
abbrev cX4_taster : ByteArray := prog_1_method_6_code
def yX4_taster : MethodName := ⟨RX4, "taster", "(II)I"⟩
abbrev cX4_cups : ByteArray := prog_1_method_7_code
def yX4_cups : MethodName := ⟨RX4, "cups", "(III)I"⟩
abbrev cX4_weighs : ByteArray := prog_1_method_8_code
def yX4_weighs : MethodName := ⟨RX4, "weighs", "(II)I"⟩
abbrev cX4_says : ByteArray := prog_1_method_9_code
def yX4_says : MethodName := ⟨RX4, "says", "(III)I"⟩
abbrev cX4_jug : ByteArray := prog_1_method_10_code
def yX4_jug : MethodName := ⟨RX4, "jug", "(IIIII)I"⟩
abbrev cX4_night : ByteArray := prog_1_method_11_code
def yX4_night : MethodName := ⟨RX4, "night", "()I"⟩
abbrev cX4_heat : ByteArray := prog_1_method_12_code
def yX4_heat : MethodName := ⟨RX4, "heat", "(I)I"⟩
abbrev cX4_undo : ByteArray := prog_1_method_13_code
def yX4_undo : MethodName := ⟨RX4, "undo", "()I"⟩
abbrev cX4_known : ByteArray := prog_1_method_14_code
def yX4_known : MethodName := ⟨RX4, "known", "(II)I"⟩
abbrev cX4_canBe : ByteArray := prog_1_method_15_code
def yX4_canBe : MethodName := ⟨RX4, "canBe", "(II)I"⟩
abbrev cX4_next : ByteArray := prog_1_method_16_code
def yX4_next : MethodName := ⟨RX4, "next", "(II)I"⟩
abbrev cX4_enough : ByteArray := prog_1_method_17_code
def yX4_enough : MethodName := ⟨RX4, "enough", "(II)I"⟩
abbrev cX4_heavier : ByteArray := prog_1_method_18_code
def yX4_heavier : MethodName := ⟨RX4, "heavier", "(II)I"⟩
abbrev cX4_told : ByteArray := prog_1_method_19_code
def yX4_told : MethodName := ⟨RX4, "told", "(IIII)I"⟩
abbrev cX4_forget : ByteArray := prog_1_method_20_code
def yX4_forget : MethodName := ⟨RX4, "forget", "()I"⟩
abbrev cX4_learnt : ByteArray := prog_1_method_21_code
def yX4_learnt : MethodName := ⟨RX4, "learnt", "(I)I"⟩
abbrev cX4_may : ByteArray := prog_1_method_22_code
def yX4_may : MethodName := ⟨RX4, "may", "(IIII)I"⟩
abbrev cX4_bribed : ByteArray := prog_1_method_23_code
def yX4_bribed : MethodName := ⟨RX4, "bribed", "()I"⟩
abbrev cX4_memory : ByteArray := prog_1_method_24_code
def yX4_memory : MethodName := ⟨RX4, "memory", "(IIII)I"⟩
abbrev cX4_mark : ByteArray := prog_1_method_25_code
def yX4_mark : MethodName := ⟨RX4, "mark", "(II)I"⟩
abbrev cX4_keep : ByteArray := prog_1_method_26_code
def yX4_keep : MethodName := ⟨RX4, "keep", "(I)I"⟩
abbrev cX4_back : ByteArray := prog_1_method_27_code
def yX4_back : MethodName := ⟨RX4, "back", "(I)I"⟩
abbrev cX4_count : ByteArray := prog_1_method_28_code
def yX4_count : MethodName := ⟨RX4, "count", "(I)I"⟩
abbrev cX4_trace : ByteArray := prog_1_method_29_code
def yX4_trace : MethodName := ⟨RX4, "trace", "()J"⟩
abbrev cX4_isWithin : ByteArray := prog_1_method_30_code
def yX4_isWithin : MethodName := ⟨RX4, "isWithin", "(III)Z"⟩
abbrev cX4_isWeight : ByteArray := prog_1_method_31_code
def yX4_isWeight : MethodName := ⟨RX4, "isWeight", "(I)Z"⟩
abbrev cX4_isLoad : ByteArray := prog_1_method_32_code
def yX4_isLoad : MethodName := ⟨RX4, "isLoad", "(I)Z"⟩
abbrev cX4_isTaster : ByteArray := prog_1_method_33_code
def yX4_isTaster : MethodName := ⟨RX4, "isTaster", "(I)Z"⟩
abbrev cX4_isTasting : ByteArray := prog_1_method_34_code
def yX4_isTasting : MethodName := ⟨RX4, "isTasting", "(III)Z"⟩
abbrev cX4_facts : ByteArray := prog_1_method_35_code
def yX4_facts : MethodName := ⟨RX4, "facts", "()I"⟩
abbrev cX4_fact : ByteArray := prog_1_method_36_code
def yX4_fact : MethodName := ⟨RX4, "fact", "(II)I"⟩
abbrev cX4_addFact : ByteArray := prog_1_method_37_code
def yX4_addFact : MethodName := ⟨RX4, "addFact", "(IIII)V"⟩
abbrev cX4_addLick : ByteArray := prog_1_method_38_code
def yX4_addLick : MethodName := ⟨RX4, "addLick", "(I)V"⟩
abbrev cX4_thirst : ByteArray := prog_1_method_39_code
def yX4_thirst : MethodName := ⟨RX4, "thirst", "(II)I"⟩
abbrev cX4_drinksIn : ByteArray := prog_1_method_40_code
def yX4_drinksIn : MethodName := ⟨RX4, "drinksIn", "(II)I"⟩
abbrev cX4_canWeigh : ByteArray := prog_1_method_41_code
def yX4_canWeigh : MethodName := ⟨RX4, "canWeigh", "(II)Z"⟩
abbrev cX4_leastOf : ByteArray := prog_1_method_42_code
def yX4_leastOf : MethodName := ⟨RX4, "leastOf", "(I)I"⟩
abbrev cX4_greatestOf : ByteArray := prog_1_method_43_code
def yX4_greatestOf : MethodName := ⟨RX4, "greatestOf", "(I)I"⟩
abbrev cX4_endOfSpan : ByteArray := prog_1_method_44_code
def yX4_endOfSpan : MethodName := ⟨RX4, "endOfSpan", "(IIII)I"⟩
abbrev cX4_leftAtWorst : ByteArray := prog_1_method_45_code
def yX4_leftAtWorst : MethodName := ⟨RX4, "leftAtWorst", "(III)I"⟩
abbrev cX4_plannedLicks : ByteArray := prog_1_method_46_code
def yX4_plannedLicks : MethodName := ⟨RX4, "plannedLicks", "(II)I"⟩
abbrev cX4_planWith : ByteArray := prog_1_method_47_code
def yX4_planWith : MethodName := ⟨RX4, "planWith", "(II)I"⟩
abbrev cX4_isEnough : ByteArray := prog_1_method_48_code
def yX4_isEnough : MethodName := ⟨RX4, "isEnough", "(IIIII)Z"⟩
abbrev cX4_isEnoughBy : ByteArray := prog_1_method_49_code
def yX4_isEnoughBy : MethodName := ⟨RX4, "isEnoughBy", "(IIIIII)Z"⟩
abbrev cX4_toldTastings : ByteArray := prog_1_method_50_code
def yX4_toldTastings : MethodName := ⟨RX4, "toldTastings", "()I"⟩
abbrev cX4_isAsTold : ByteArray := prog_1_method_51_code
def yX4_isAsTold : MethodName := ⟨RX4, "isAsTold", "(I)Z"⟩
abbrev cX4_markOfTaster : ByteArray := prog_1_method_52_code
def yX4_markOfTaster : MethodName := ⟨RX4, "markOfTaster", "(I)I"⟩
abbrev cX4_markOfCamel : ByteArray := prog_1_method_53_code
def yX4_markOfCamel : MethodName := ⟨RX4, "markOfCamel", "(I)I"⟩
abbrev cX4_markOfChild : ByteArray := prog_1_method_54_code
def yX4_markOfChild : MethodName := ⟨RX4, "markOfChild", "(I)I"⟩
abbrev cX4_markOfFeverish : ByteArray := prog_1_method_55_code
def yX4_markOfFeverish : MethodName := ⟨RX4, "markOfFeverish", "(I)I"⟩
abbrev cX4_markOfInspector : ByteArray := prog_1_method_56_code
def yX4_markOfInspector : MethodName := ⟨RX4, "markOfInspector", "(I)I"⟩
abbrev cX4_markOfWell : ByteArray := prog_1_method_57_code
def yX4_markOfWell : MethodName := ⟨RX4, "markOfWell", "(I)I"⟩
abbrev cX4_imageAt : ByteArray := prog_1_method_58_code
def yX4_imageAt : MethodName := ⟨RX4, "imageAt", "(I)LThirstScales$Now;"⟩
def RX5 : String := "ThirstScalesModel"
def TX5 : u_T := fun k => match k with
  | 0 => ("ThirstScalesModel", "trace", "J", false)
  | 1 => ("ThirstScalesModel", "text", "[B", true)
  | 2 => ("ThirstScalesModel", "typed", "I", false)
  | 3 => ("ThirstScalesModel", "loads", "[I", true)
  | 4 => ("ThirstScalesModel", "weights", "[I", true)
  | 5 => ("ThirstScalesModel", "tasters", "[I", true)
  | 6 => ("ThirstScalesModel", "as", "[I", true)
  | 7 => ("ThirstScalesModel", "bs", "[I", true)
  | 8 => ("ThirstScalesModel", "ds", "[I", true)
  | 9 => ("ThirstScalesModel", "ts", "[I", true)
  | 10 => ("ThirstScalesModel", "firstHeat", "[I", true)
  | 11 => ("ThirstScalesModel", "at", "I", false)
  | 12 => ("ThirstScalesModel", "start", "I", false)
  | 13 => ("ThirstScalesModel", "sort", "I", false)
  | 14 => ("ThirstScalesModel", "value", "I", false)
  | 15 => ("ThirstScalesModel", "fault", "I", false)
  | 16 => ("ThirstScalesModel", "hasHeat", "Z", false)
  | 17 => ("ThirstScalesModel", "now", "[I", true)
  | 18 => ("ThirstScalesModel", "isKept", "[Z", true)
  | 19 => ("ThirstScalesModel", "tasting", "[I", true)
  | _ => ("ThirstScalesModel", "tastings", "I", false)
def tyX5 : Nat → FieldType := fun k => match k with
  | 0 => .long
  | 1 => .array .byte
  | 2 => .int
  | 3 => .array .int
  | 4 => .array .int
  | 5 => .array .int
  | 6 => .array .int
  | 7 => .array .int
  | 8 => .array .int
  | 9 => .array .int
  | 10 => .array .int
  | 11 => .int
  | 12 => .int
  | 13 => .int
  | 14 => .int
  | 15 => .int
  | 16 => .boolean
  | 17 => .array .int
  | 18 => .array .boolean
  | 19 => .array .int
  | _ => .int
abbrev wsX50 : List Cond := u_ws RX5 TX5 21
theorem nmX5 : ∀ a, a < 21 → ∀ b, b < 21 → a ≠ b → (TX5 a).2.1 ≠ (TX5 b).2.1 := by decide +kernel
theorem tyX5_ok : ∀ k, k < 21 → parseFieldDescriptor (TX5 k).2.2.1 = some (tyX5 k) := by decide +kernel
abbrev cX5_init : ByteArray := prog_7_method_1_code
def yX5_init : MethodName := ⟨RX5, "<init>", "()V"⟩
abbrev cX5_in : ByteArray := prog_7_method_3_code
def yX5_in : MethodName := ⟨RX5, "in", "(III)Z"⟩
abbrev cX5_type : ByteArray := prog_7_method_4_code
def yX5_type : MethodName := ⟨RX5, "type", "(JI)I"⟩
abbrev cX5_clear : ByteArray := prog_7_method_5_code
def yX5_clear : MethodName := ⟨RX5, "clear", "()I"⟩
abbrev cX5_here : ByteArray := prog_7_method_6_code
def yX5_here : MethodName := ⟨RX5, "here", "()I"⟩
abbrev cX5_step : ByteArray := prog_7_method_7_code
def yX5_step : MethodName := ⟨RX5, "step", "()V"⟩
abbrev cX5_due : ByteArray := prog_7_method_8_code
def yX5_due : MethodName := ⟨RX5, "due", "(Z)I"⟩
abbrev cX5_number : ByteArray := prog_7_method_9_code
def yX5_number : MethodName := ⟨RX5, "number", "(II)I"⟩
abbrev cX5_readItem : ByteArray := prog_7_method_10_code
def yX5_readItem : MethodName := ⟨RX5, "readItem", "()V"⟩
abbrev cX5_gate : ByteArray := prog_7_method_11_code
def yX5_gate : MethodName := ⟨RX5, "gate", "()I"⟩
abbrev cX5_isLoad : ByteArray := prog_7_method_12_code
def yX5_isLoad : MethodName := ⟨RX5, "isLoad", "(I)Z"⟩
abbrev cX5_isTaster : ByteArray := prog_7_method_13_code
def yX5_isTaster : MethodName := ⟨RX5, "isTaster", "(I)Z"⟩
abbrev cX5_byLaw : ByteArray := prog_7_method_14_code
def yX5_byLaw : MethodName := ⟨RX5, "byLaw", "(IIIIIII)I"⟩
abbrev cX5_cupsOf : ByteArray := prog_7_method_15_code
def yX5_cupsOf : MethodName := ⟨RX5, "cupsOf", "(IIII)I"⟩
abbrev cX5_load : ByteArray := prog_7_method_16_code
def yX5_load : MethodName := ⟨RX5, "load", "(I)I"⟩
abbrev cX5_taster : ByteArray := prog_7_method_17_code
def yX5_taster : MethodName := ⟨RX5, "taster", "(II)I"⟩
abbrev cX5_cups : ByteArray := prog_7_method_18_code
def yX5_cups : MethodName := ⟨RX5, "cups", "(III)I"⟩
abbrev cX5_know : ByteArray := prog_7_method_19_code
def yX5_know : MethodName := ⟨RX5, "know", "(IIII)V"⟩
abbrev cX5_weighs : ByteArray := prog_7_method_20_code
def yX5_weighs : MethodName := ⟨RX5, "weighs", "(II)I"⟩
abbrev cX5_says : ByteArray := prog_7_method_21_code
def yX5_says : MethodName := ⟨RX5, "says", "(III)I"⟩
abbrev cX5_jug : ByteArray := prog_7_method_22_code
def yX5_jug : MethodName := ⟨RX5, "jug", "(IIIII)I"⟩
abbrev cX5_night : ByteArray := prog_7_method_23_code
def yX5_night : MethodName := ⟨RX5, "night", "()I"⟩
abbrev cX5_heat : ByteArray := prog_7_method_24_code
def yX5_heat : MethodName := ⟨RX5, "heat", "(I)I"⟩
abbrev cX5_undo : ByteArray := prog_7_method_25_code
def yX5_undo : MethodName := ⟨RX5, "undo", "()I"⟩
abbrev cX5_known : ByteArray := prog_7_method_26_code
def yX5_known : MethodName := ⟨RX5, "known", "(II)I"⟩
abbrev cX5_canBeOf : ByteArray := prog_7_method_27_code
def yX5_canBeOf : MethodName := ⟨RX5, "canBeOf", "(I)J"⟩
abbrev cX5_manyOf : ByteArray := prog_7_method_28_code
def yX5_manyOf : MethodName := ⟨RX5, "manyOf", "(J)I"⟩
abbrev cX5_least : ByteArray := prog_7_method_29_code
def yX5_least : MethodName := ⟨RX5, "least", "(J)I"⟩
abbrev cX5_most : ByteArray := prog_7_method_30_code
def yX5_most : MethodName := ⟨RX5, "most", "(J)I"⟩
abbrev cX5_canBe : ByteArray := prog_7_method_31_code
def yX5_canBe : MethodName := ⟨RX5, "canBe", "(II)I"⟩
abbrev cX5_part : ByteArray := prog_7_method_32_code
def yX5_part : MethodName := ⟨RX5, "part", "(JI)J"⟩
abbrev cX5_worst : ByteArray := prog_7_method_33_code
def yX5_worst : MethodName := ⟨RX5, "worst", "(JI)I"⟩
abbrev cX5_next : ByteArray := prog_7_method_34_code
def yX5_next : MethodName := ⟨RX5, "next", "(II)I"⟩
abbrev cX5_isEnoughByOne : ByteArray := prog_7_method_35_code
def yX5_isEnoughByOne : MethodName := ⟨RX5, "isEnoughByOne", "(JI)Z"⟩
abbrev cX5_isEnoughByTwo : ByteArray := prog_7_method_36_code
def yX5_isEnoughByTwo : MethodName := ⟨RX5, "isEnoughByTwo", "(JI)Z"⟩
abbrev cX5_isEnoughByThree : ByteArray := prog_7_method_37_code
def yX5_isEnoughByThree : MethodName := ⟨RX5, "isEnoughByThree", "(JI)Z"⟩
abbrev cX5_enough : ByteArray := prog_7_method_38_code
def yX5_enough : MethodName := ⟨RX5, "enough", "(II)I"⟩
abbrev cX5_heavier : ByteArray := prog_7_method_39_code
def yX5_heavier : MethodName := ⟨RX5, "heavier", "(II)I"⟩
abbrev cX5_isTasting : ByteArray := prog_7_method_40_code
def yX5_isTasting : MethodName := ⟨RX5, "isTasting", "(III)Z"⟩
abbrev cX5_told : ByteArray := prog_7_method_41_code
def yX5_told : MethodName := ⟨RX5, "told", "(IIII)I"⟩
abbrev cX5_forget : ByteArray := prog_7_method_42_code
def yX5_forget : MethodName := ⟨RX5, "forget", "()I"⟩
abbrev cX5_aOf : ByteArray := prog_7_method_43_code
def yX5_aOf : MethodName := ⟨RX5, "aOf", "(I)I"⟩
abbrev cX5_bOf : ByteArray := prog_7_method_44_code
def yX5_bOf : MethodName := ⟨RX5, "bOf", "(I)I"⟩
abbrev cX5_dOf : ByteArray := prog_7_method_45_code
def yX5_dOf : MethodName := ⟨RX5, "dOf", "(I)I"⟩
abbrev cX5_tOf : ByteArray := prog_7_method_46_code
def yX5_tOf : MethodName := ⟨RX5, "tOf", "(I)I"⟩
abbrev cX5_isAsTold : ByteArray := prog_7_method_47_code
def yX5_isAsTold : MethodName := ⟨RX5, "isAsTold", "(I)Z"⟩
abbrev cX5_learnt : ByteArray := prog_7_method_48_code
def yX5_learnt : MethodName := ⟨RX5, "learnt", "(I)I"⟩
abbrev cX5_may : ByteArray := prog_7_method_49_code
def yX5_may : MethodName := ⟨RX5, "may", "(IIII)I"⟩
abbrev cX5_bribed : ByteArray := prog_7_method_50_code
def yX5_bribed : MethodName := ⟨RX5, "bribed", "()I"⟩
abbrev cX5_memory : ByteArray := prog_7_method_51_code
def yX5_memory : MethodName := ⟨RX5, "memory", "(IIII)I"⟩
abbrev cX5_mark : ByteArray := prog_7_method_52_code
def yX5_mark : MethodName := ⟨RX5, "mark", "(II)I"⟩
abbrev cX5_copy : ByteArray := prog_7_method_53_code
def yX5_copy : MethodName := ⟨RX5, "copy", "(II)V"⟩
abbrev cX5_keep : ByteArray := prog_7_method_54_code
def yX5_keep : MethodName := ⟨RX5, "keep", "(I)I"⟩
abbrev cX5_back : ByteArray := prog_7_method_55_code
def yX5_back : MethodName := ⟨RX5, "back", "(I)I"⟩
abbrev cX5_count : ByteArray := prog_7_method_56_code
def yX5_count : MethodName := ⟨RX5, "count", "(I)I"⟩
abbrev cX5_trace : ByteArray := prog_7_method_57_code
def yX5_trace : MethodName := ⟨RX5, "trace", "()J"⟩
def RJ9 : String := "java/lang/Math"
def TJ9 : u_T := fun k => match k with
  | _ => ("", "", "", false)
def tyJ9 : Nat → FieldType := fun k => match k with
  | _ => .int
abbrev wsJ90 : List Cond := u_ws RJ9 TJ9 0
theorem nmJ9 : ∀ a, a < 0 → ∀ b, b < 0 → a ≠ b → (TJ9 a).2.1 ≠ (TJ9 b).2.1 := by decide +kernel
theorem tyJ9_ok : ∀ k, k < 0 → parseFieldDescriptor (TJ9 k).2.2.1 = some (tyJ9 k) := by decide +kernel
abbrev cJ9_abs_0f7a4 : ByteArray := prog_8_method_59_code
def yJ9_abs_0f7a4 : MethodName := ⟨RJ9, "abs", "(I)I"⟩
abbrev cJ9_max_7cf53 : ByteArray := prog_8_method_65_code
def yJ9_max_7cf53 : MethodName := ⟨RJ9, "max", "(II)I"⟩
abbrev cJ9_min_7cf53 : ByteArray := prog_8_method_69_code
def yJ9_min_7cf53 : MethodName := ⟨RJ9, "min", "(II)I"⟩
def RJ0 : String := "java/lang/String"
def TJ0 : u_T := fun k => match k with
  | _ => ("", "", "", false)
def tyJ0 : Nat → FieldType := fun k => match k with
  | _ => .int
abbrev wsJ00 : List Cond := u_ws RJ0 TJ0 0
theorem nmJ0 : ∀ a, a < 0 → ∀ b, b < 0 → a ≠ b → (TJ0 a).2.1 ≠ (TJ0 b).2.1 := by decide +kernel
theorem tyJ0_ok : ∀ k, k < 0 → parseFieldDescriptor (TJ0 k).2.2.1 = some (tyJ0 k) := by decide +kernel
abbrev cJ0_length_8abf5 : ByteArray := prog_9_method_54_code
def yJ0_length_8abf5 : MethodName := ⟨RJ0, "length", "()I"⟩
abbrev cJ0_charAt_5068e : ByteArray := prog_9_method_56_code
def yJ0_charAt_5068e : MethodName := ⟨RJ0, "charAt", "(I)C"⟩
abbrev cJ0_coder_7d493 : ByteArray := prog_9_method_152_code
def yJ0_coder_7d493 : MethodName := ⟨RJ0, "coder", "()B"⟩
abbrev cJ0_isLatin1_aae02 : ByteArray := prog_9_method_154_code
def yJ0_isLatin1_aae02 : MethodName := ⟨RJ0, "isLatin1", "()Z"⟩
abbrev cJ0_checkIndex_df160 : ByteArray := prog_9_method_155_code
def yJ0_checkIndex_df160 : MethodName := ⟨RJ0, "checkIndex", "(II)V"⟩
def RJ1 : String := "java/lang/StringLatin1"
def TJ1 : u_T := fun k => match k with
  | _ => ("", "", "", false)
def tyJ1 : Nat → FieldType := fun k => match k with
  | _ => .int
abbrev wsJ10 : List Cond := u_ws RJ1 TJ1 0
theorem nmJ1 : ∀ a, a < 0 → ∀ b, b < 0 → a ≠ b → (TJ1 a).2.1 ≠ (TJ1 b).2.1 := by decide +kernel
theorem tyJ1_ok : ∀ k, k < 0 → parseFieldDescriptor (TJ1 k).2.2.1 = some (tyJ1 k) := by decide +kernel
abbrev cJ1_charAt_3b067 : ByteArray := prog_10_method_2_code
def yJ1_charAt_3b067 : MethodName := ⟨RJ1, "charAt", "([BI)C"⟩
def RJ2 : String := "java/lang/StringUTF16"
def TJ2 : u_T := fun k => match k with
  | _ => ("", "", "", false)
def tyJ2 : Nat → FieldType := fun k => match k with
  | _ => .int
abbrev wsJ20 : List Cond := u_ws RJ2 TJ2 0
theorem nmJ2 : ∀ a, a < 0 → ∀ b, b < 0 → a ≠ b → (TJ2 a).2.1 ≠ (TJ2 b).2.1 := by decide +kernel
theorem tyJ2_ok : ∀ k, k < 0 → parseFieldDescriptor (TJ2 k).2.2.1 = some (tyJ2 k) := by decide +kernel
abbrev cJ2_getChar_3b067 : ByteArray := prog_11_method_5_code
def yJ2_getChar_3b067 : MethodName := ⟨RJ2, "getChar", "([BI)C"⟩
abbrev cJ2_length_9d52b : ByteArray := prog_11_method_6_code
def yJ2_length_9d52b : MethodName := ⟨RJ2, "length", "([B)I"⟩
abbrev cJ2_charAt_3b067 : ByteArray := prog_11_method_83_code
def yJ2_charAt_3b067 : MethodName := ⟨RJ2, "charAt", "([BI)C"⟩
abbrev cJ2_checkIndex_2214a : ByteArray := prog_11_method_91_code
def yJ2_checkIndex_2214a : MethodName := ⟨RJ2, "checkIndex", "(I[B)V"⟩
def RJ3 : String := "jdk/internal/util/Preconditions"
def TJ3 : u_T := fun k => match k with
  | _ => ("", "", "", false)
def tyJ3 : Nat → FieldType := fun k => match k with
  | _ => .int
abbrev wsJ30 : List Cond := u_ws RJ3 TJ3 0
theorem nmJ3 : ∀ a, a < 0 → ∀ b, b < 0 → a ≠ b → (TJ3 a).2.1 ≠ (TJ3 b).2.1 := by decide +kernel
theorem tyJ3_ok : ∀ k, k < 0 → parseFieldDescriptor (TJ3 k).2.2.1 = some (tyJ3 k) := by decide +kernel
abbrev cJ3_checkIndex_8e157 : ByteArray := prog_12_method_11_code
def yJ3_checkIndex_8e157 : MethodName := ⟨RJ3, "checkIndex", "(IILjava/util/function/BiFunction;)I"⟩
def RL : String := "ThirstScalesLaw"
abbrev cL_law : ByteArray := code
def yL_law : MethodName := ⟨RL, "law", "([I)Z"⟩
end
section
set_option maxRecDepth 20000 in
theorem dX0_numbered_0 : decode cX0_numbered 0 = .ok (.iload_n 0, 1) := by decide +kernel
set_option maxRecDepth 20000 in
theorem dX0_numbered_1 : decode cX0_numbered 1 = .ok (.iconst 1, 1) := by decide +kernel
set_option maxRecDepth 20000 in
theorem dX0_numbered_2 : decode cX0_numbered 2 = .ok (.isub, 1) := by decide +kernel
set_option maxRecDepth 20000 in
theorem dX0_numbered_3 : decode cX0_numbered 3 = .ok (.bipush 10, 2) := by decide +kernel
set_option maxRecDepth 20000 in
theorem dX0_numbered_5 : decode cX0_numbered 5 = .ok (.imul, 1) := by decide +kernel
set_option maxRecDepth 20000 in
theorem dX0_numbered_6 : decode cX0_numbered 6 = .ok (.iload_n 1, 1) := by decide +kernel
set_option maxRecDepth 20000 in
theorem dX0_numbered_7 : decode cX0_numbered 7 = .ok (.iadd, 1) := by decide +kernel
set_option maxRecDepth 20000 in
theorem dX0_numbered_8 : decode cX0_numbered 8 = .ok (.bipush 9, 2) := by decide +kernel
set_option maxRecDepth 20000 in
theorem dX0_numbered_10 : decode cX0_numbered 10 = .ok (.imul, 1) := by decide +kernel
set_option maxRecDepth 20000 in
theorem dX0_numbered_11 : decode cX0_numbered 11 = .ok (.iload_n 2, 1) := by decide +kernel
set_option maxRecDepth 20000 in
theorem dX0_numbered_12 : decode cX0_numbered 12 = .ok (.iadd, 1) := by decide +kernel
set_option maxRecDepth 20000 in
theorem dX0_numbered_13 : decode cX0_numbered 13 = .ok (.iconst 1, 1) := by decide +kernel
set_option maxRecDepth 20000 in
theorem dX0_numbered_14 : decode cX0_numbered 14 = .ok (.isub, 1) := by decide +kernel
set_option maxRecDepth 20000 in
theorem dX0_numbered_15 : decode cX0_numbered 15 = .ok (.iconst 4, 1) := by decide +kernel
set_option maxRecDepth 20000 in
theorem dX0_numbered_16 : decode cX0_numbered 16 = .ok (.imul, 1) := by decide +kernel
set_option maxRecDepth 20000 in
theorem dX0_numbered_17 : decode cX0_numbered 17 = .ok (.iload_n 3, 1) := by decide +kernel
set_option maxRecDepth 20000 in
theorem dX0_numbered_18 : decode cX0_numbered 18 = .ok (.iadd, 1) := by decide +kernel
set_option maxRecDepth 20000 in
theorem dX0_numbered_19 : decode cX0_numbered 19 = .ok (.ireturn, 1) := by decide +kernel
set_option maxRecDepth 20000 in
theorem dX0_part_0 : decode cX0_part 0 = .ok (.iload_n 1, 1) := by decide +kernel
set_option maxRecDepth 20000 in
theorem dX0_part_1 : decode cX0_part 1 = .ok (.tableswitch 60 0 3 #[31, 39, 47, 56], 31) := by decide +kernel
set_option maxRecDepth 20000 in
theorem dX0_part_32 : decode cX0_part 32 = .ok (.iload_n 0, 1) := by decide +kernel
set_option maxRecDepth 20000 in
theorem dX0_part_33 : decode cX0_part 33 = .ok (.sipush 360, 3) := by decide +kernel
set_option maxRecDepth 20000 in
theorem dX0_part_36 : decode cX0_part 36 = .ok (.idiv, 1) := by decide +kernel
set_option maxRecDepth 20000 in
theorem dX0_part_37 : decode cX0_part 37 = .ok (.iconst 1, 1) := by decide +kernel
set_option maxRecDepth 20000 in
theorem dX0_part_38 : decode cX0_part 38 = .ok (.iadd, 1) := by decide +kernel
set_option maxRecDepth 20000 in
theorem dX0_part_39 : decode cX0_part 39 = .ok (.ireturn, 1) := by decide +kernel
set_option maxRecDepth 20000 in
theorem dX0_part_40 : decode cX0_part 40 = .ok (.iload_n 0, 1) := by decide +kernel
set_option maxRecDepth 20000 in
theorem dX0_part_41 : decode cX0_part 41 = .ok (.bipush 36, 2) := by decide +kernel
set_option maxRecDepth 20000 in
theorem dX0_part_43 : decode cX0_part 43 = .ok (.idiv, 1) := by decide +kernel
set_option maxRecDepth 20000 in
theorem dX0_part_44 : decode cX0_part 44 = .ok (.bipush 10, 2) := by decide +kernel
set_option maxRecDepth 20000 in
theorem dX0_part_46 : decode cX0_part 46 = .ok (.irem, 1) := by decide +kernel
set_option maxRecDepth 20000 in
theorem dX0_part_47 : decode cX0_part 47 = .ok (.ireturn, 1) := by decide +kernel
set_option maxRecDepth 20000 in
theorem dX0_part_48 : decode cX0_part 48 = .ok (.iload_n 0, 1) := by decide +kernel
set_option maxRecDepth 20000 in
theorem dX0_part_49 : decode cX0_part 49 = .ok (.iconst 4, 1) := by decide +kernel
set_option maxRecDepth 20000 in
theorem dX0_part_50 : decode cX0_part 50 = .ok (.idiv, 1) := by decide +kernel
set_option maxRecDepth 20000 in
theorem dX0_part_51 : decode cX0_part 51 = .ok (.bipush 9, 2) := by decide +kernel
set_option maxRecDepth 20000 in
theorem dX0_part_53 : decode cX0_part 53 = .ok (.irem, 1) := by decide +kernel
set_option maxRecDepth 20000 in
theorem dX0_part_54 : decode cX0_part 54 = .ok (.iconst 1, 1) := by decide +kernel
set_option maxRecDepth 20000 in
theorem dX0_part_55 : decode cX0_part 55 = .ok (.iadd, 1) := by decide +kernel
set_option maxRecDepth 20000 in
theorem dX0_part_56 : decode cX0_part 56 = .ok (.ireturn, 1) := by decide +kernel
set_option maxRecDepth 20000 in
theorem dX0_part_57 : decode cX0_part 57 = .ok (.iload_n 0, 1) := by decide +kernel
set_option maxRecDepth 20000 in
theorem dX0_part_58 : decode cX0_part 58 = .ok (.iconst 4, 1) := by decide +kernel
set_option maxRecDepth 20000 in
theorem dX0_part_59 : decode cX0_part 59 = .ok (.irem, 1) := by decide +kernel
set_option maxRecDepth 20000 in
theorem dX0_part_60 : decode cX0_part 60 = .ok (.ireturn, 1) := by decide +kernel
set_option maxRecDepth 20000 in
theorem dX0_part_61 : decode cX0_part 61 = .ok (.iconst 0, 1) := by decide +kernel
set_option maxRecDepth 20000 in
theorem dX0_part_62 : decode cX0_part 62 = .ok (.ireturn, 1) := by decide +kernel
set_option maxRecDepth 20000 in
theorem dX0_least_0 : decode cX0_least 0 = .ok (.iload_n 0, 1) := by decide +kernel
set_option maxRecDepth 20000 in
theorem dX0_least_1 : decode cX0_least 1 = .ok (.ifCond .eq 8, 3) := by decide +kernel
set_option maxRecDepth 20000 in
theorem dX0_least_4 : decode cX0_least 4 = .ok (.iload_n 0, 1) := by decide +kernel
set_option maxRecDepth 20000 in
theorem dX0_least_5 : decode cX0_least 5 = .ok (.iconst 2, 1) := by decide +kernel
set_option maxRecDepth 20000 in
theorem dX0_least_6 : decode cX0_least 6 = .ok (.if_icmp .ne 7, 3) := by decide +kernel
set_option maxRecDepth 20000 in
theorem dX0_least_9 : decode cX0_least 9 = .ok (.iconst 1, 1) := by decide +kernel
set_option maxRecDepth 20000 in
theorem dX0_least_10 : decode cX0_least 10 = .ok (.goto 4, 3) := by decide +kernel
set_option maxRecDepth 20000 in
theorem dX0_least_13 : decode cX0_least 13 = .ok (.iconst 0, 1) := by decide +kernel
set_option maxRecDepth 20000 in
theorem dX0_least_14 : decode cX0_least 14 = .ok (.ireturn, 1) := by decide +kernel
set_option maxRecDepth 20000 in
theorem dX0_most_0 : decode cX0_most 0 = .ok (.iload_n 0, 1) := by decide +kernel
set_option maxRecDepth 20000 in
theorem dX0_most_1 : decode cX0_most 1 = .ok (.iconst 3, 1) := by decide +kernel
set_option maxRecDepth 20000 in
theorem dX0_most_2 : decode cX0_most 2 = .ok (.if_icmp .ne 7, 3) := by decide +kernel
set_option maxRecDepth 20000 in
theorem dX0_most_5 : decode cX0_most 5 = .ok (.iconst 3, 1) := by decide +kernel
set_option maxRecDepth 20000 in
theorem dX0_most_6 : decode cX0_most 6 = .ok (.goto 5, 3) := by decide +kernel
set_option maxRecDepth 20000 in
theorem dX0_most_9 : decode cX0_most 9 = .ok (.bipush 9, 2) := by decide +kernel
set_option maxRecDepth 20000 in
theorem dX0_most_11 : decode cX0_most 11 = .ok (.ireturn, 1) := by decide +kernel
set_option maxRecDepth 20000 in
theorem dX0_drinks_0 : decode cX0_drinks 0 = .ok (.iload_n 0, 1) := by decide +kernel
set_option maxRecDepth 20000 in
theorem dX0_drinks_1 : decode cX0_drinks 1 = .ok (.iconst 2, 1) := by decide +kernel
set_option maxRecDepth 20000 in
theorem dX0_drinks_2 : decode cX0_drinks 2 = .ok (.invokestatic 9, 3) := by decide +kernel
set_option maxRecDepth 20000 in
theorem dX0_drinks_5 : decode cX0_drinks 5 = .ok (.istore 4, 2) := by decide +kernel
set_option maxRecDepth 20000 in
theorem dX0_drinks_7 : decode cX0_drinks 7 = .ok (.iload 4, 2) := by decide +kernel
set_option maxRecDepth 20000 in
theorem dX0_drinks_9 : decode cX0_drinks 9 = .ok (.iconst 1, 1) := by decide +kernel
set_option maxRecDepth 20000 in
theorem dX0_drinks_10 : decode cX0_drinks 10 = .ok (.if_icmp .ge 5, 3) := by decide +kernel
set_option maxRecDepth 20000 in
theorem dX0_drinks_13 : decode cX0_drinks 13 = .ok (.iconst 0, 1) := by decide +kernel
set_option maxRecDepth 20000 in
theorem dX0_drinks_14 : decode cX0_drinks 14 = .ok (.ireturn, 1) := by decide +kernel
set_option maxRecDepth 20000 in
theorem dX0_drinks_15 : decode cX0_drinks 15 = .ok (.iload_n 0, 1) := by decide +kernel
set_option maxRecDepth 20000 in
theorem dX0_drinks_16 : decode cX0_drinks 16 = .ok (.iconst 0, 1) := by decide +kernel
set_option maxRecDepth 20000 in
theorem dX0_drinks_17 : decode cX0_drinks 17 = .ok (.invokestatic 9, 3) := by decide +kernel
set_option maxRecDepth 20000 in
theorem dX0_drinks_20 : decode cX0_drinks 20 = .ok (.iload_n 1, 1) := by decide +kernel
set_option maxRecDepth 20000 in
theorem dX0_drinks_21 : decode cX0_drinks 21 = .ok (.imul, 1) := by decide +kernel
set_option maxRecDepth 20000 in
theorem dX0_drinks_22 : decode cX0_drinks 22 = .ok (.iload_n 0, 1) := by decide +kernel
set_option maxRecDepth 20000 in
theorem dX0_drinks_23 : decode cX0_drinks 23 = .ok (.iconst 3, 1) := by decide +kernel
set_option maxRecDepth 20000 in
theorem dX0_drinks_24 : decode cX0_drinks 24 = .ok (.invokestatic 9, 3) := by decide +kernel
set_option maxRecDepth 20000 in
theorem dX0_drinks_27 : decode cX0_drinks 27 = .ok (.iload_n 2, 1) := by decide +kernel
set_option maxRecDepth 20000 in
theorem dX0_drinks_28 : decode cX0_drinks 28 = .ok (.imul, 1) := by decide +kernel
set_option maxRecDepth 20000 in
theorem dX0_drinks_29 : decode cX0_drinks 29 = .ok (.isub, 1) := by decide +kernel
set_option maxRecDepth 20000 in
theorem dX0_drinks_30 : decode cX0_drinks 30 = .ok (.iconst 0, 1) := by decide +kernel
set_option maxRecDepth 20000 in
theorem dX0_drinks_31 : decode cX0_drinks 31 = .ok (.invokestatic 13, 3) := by decide +kernel
set_option maxRecDepth 20000 in
theorem dX0_drinks_34 : decode cX0_drinks 34 = .ok (.istore 5, 2) := by decide +kernel
set_option maxRecDepth 20000 in
theorem dX0_drinks_36 : decode cX0_drinks 36 = .ok (.iload 5, 2) := by decide +kernel
set_option maxRecDepth 20000 in
theorem dX0_drinks_38 : decode cX0_drinks 38 = .ok (.iload_n 0, 1) := by decide +kernel
set_option maxRecDepth 20000 in
theorem dX0_drinks_39 : decode cX0_drinks 39 = .ok (.iconst 1, 1) := by decide +kernel
set_option maxRecDepth 20000 in
theorem dX0_drinks_40 : decode cX0_drinks 40 = .ok (.invokestatic 9, 3) := by decide +kernel
set_option maxRecDepth 20000 in
theorem dX0_drinks_43 : decode cX0_drinks 43 = .ok (.iadd, 1) := by decide +kernel
set_option maxRecDepth 20000 in
theorem dX0_drinks_44 : decode cX0_drinks 44 = .ok (.iload_n 3, 1) := by decide +kernel
set_option maxRecDepth 20000 in
theorem dX0_drinks_45 : decode cX0_drinks 45 = .ok (.iadd, 1) := by decide +kernel
set_option maxRecDepth 20000 in
theorem dX0_drinks_46 : decode cX0_drinks 46 = .ok (.iload 4, 2) := by decide +kernel
set_option maxRecDepth 20000 in
theorem dX0_drinks_48 : decode cX0_drinks 48 = .ok (.idiv, 1) := by decide +kernel
set_option maxRecDepth 20000 in
theorem dX0_drinks_49 : decode cX0_drinks 49 = .ok (.ireturn, 1) := by decide +kernel
set_option maxRecDepth 20000 in
theorem dX1_init_0 : decode cX1_init 0 = .ok (.aload_n 0, 1) := by decide +kernel
set_option maxRecDepth 20000 in
theorem dX1_init_1 : decode cX1_init 1 = .ok (.invokespecial 3, 3) := by decide +kernel
set_option maxRecDepth 20000 in
theorem dX1_init_4 : decode cX1_init 4 = .ok (.aload_n 0, 1) := by decide +kernel
set_option maxRecDepth 20000 in
theorem dX1_init_5 : decode cX1_init 5 = .ok (.new 9, 3) := by decide +kernel
set_option maxRecDepth 20000 in
theorem dX1_init_8 : decode cX1_init 8 = .ok (.dup, 1) := by decide +kernel
set_option maxRecDepth 20000 in
theorem dX1_init_9 : decode cX1_init 9 = .ok (.bipush 6, 2) := by decide +kernel
set_option maxRecDepth 20000 in
theorem dX1_init_11 : decode cX1_init 11 = .ok (.invokespecial 11, 3) := by decide +kernel
set_option maxRecDepth 20000 in
theorem dX1_init_14 : decode cX1_init 14 = .ok (.putfield 14, 3) := by decide +kernel
set_option maxRecDepth 20000 in
theorem dX1_init_17 : decode cX1_init 17 = .ok (.aload_n 0, 1) := by decide +kernel
set_option maxRecDepth 20000 in
theorem dX1_init_18 : decode cX1_init 18 = .ok (.new 9, 3) := by decide +kernel
set_option maxRecDepth 20000 in
theorem dX1_init_21 : decode cX1_init 21 = .ok (.dup, 1) := by decide +kernel
set_option maxRecDepth 20000 in
theorem dX1_init_22 : decode cX1_init 22 = .ok (.bipush 72, 2) := by decide +kernel
set_option maxRecDepth 20000 in
theorem dX1_init_24 : decode cX1_init 24 = .ok (.invokespecial 11, 3) := by decide +kernel
set_option maxRecDepth 20000 in
theorem dX1_init_27 : decode cX1_init 27 = .ok (.putfield 20, 3) := by decide +kernel
set_option maxRecDepth 20000 in
theorem dX1_init_30 : decode cX1_init 30 = .ok (.aload_n 0, 1) := by decide +kernel
set_option maxRecDepth 20000 in
theorem dX1_init_31 : decode cX1_init 31 = .ok (.iconst 0, 1) := by decide +kernel
set_option maxRecDepth 20000 in
theorem dX1_init_32 : decode cX1_init 32 = .ok (.putfield 23, 3) := by decide +kernel
set_option maxRecDepth 20000 in
theorem dX1_init_35 : decode cX1_init 35 = .ok (.return_, 1) := by decide +kernel
set_option maxRecDepth 20000 in
theorem dX1_begin_0 : decode cX1_begin 0 = .ok (.aload_n 0, 1) := by decide +kernel
set_option maxRecDepth 20000 in
theorem dX1_begin_1 : decode cX1_begin 1 = .ok (.getfield 14, 3) := by decide +kernel
set_option maxRecDepth 20000 in
theorem dX1_begin_4 : decode cX1_begin 4 = .ok (.iconst 0, 1) := by decide +kernel
set_option maxRecDepth 20000 in
theorem dX1_begin_5 : decode cX1_begin 5 = .ok (.invokevirtual 27, 3) := by decide +kernel
set_option maxRecDepth 20000 in
theorem dX1_begin_8 : decode cX1_begin 8 = .ok (.iconst 0, 1) := by decide +kernel
set_option maxRecDepth 20000 in
theorem dX1_begin_9 : decode cX1_begin 9 = .ok (.istore_n 3, 1) := by decide +kernel
set_option maxRecDepth 20000 in
theorem dX1_begin_10 : decode cX1_begin 10 = .ok (.iload_n 3, 1) := by decide +kernel
set_option maxRecDepth 20000 in
theorem dX1_begin_11 : decode cX1_begin 11 = .ok (.iload_n 1, 1) := by decide +kernel
set_option maxRecDepth 20000 in
theorem dX1_begin_12 : decode cX1_begin 12 = .ok (.if_icmp .ge 17, 3) := by decide +kernel
set_option maxRecDepth 20000 in
theorem dX1_begin_15 : decode cX1_begin 15 = .ok (.aload_n 0, 1) := by decide +kernel
set_option maxRecDepth 20000 in
theorem dX1_begin_16 : decode cX1_begin 16 = .ok (.getfield 14, 3) := by decide +kernel
set_option maxRecDepth 20000 in
theorem dX1_begin_19 : decode cX1_begin 19 = .ok (.iconst 0, 1) := by decide +kernel
set_option maxRecDepth 20000 in
theorem dX1_begin_20 : decode cX1_begin 20 = .ok (.invokevirtual 30, 3) := by decide +kernel
set_option maxRecDepth 20000 in
theorem dX1_begin_23 : decode cX1_begin 23 = .ok (.iinc 3 1, 3) := by decide +kernel
set_option maxRecDepth 20000 in
theorem dX1_begin_26 : decode cX1_begin 26 = .ok (.goto (-16), 3) := by decide +kernel
set_option maxRecDepth 20000 in
theorem dX1_begin_29 : decode cX1_begin 29 = .ok (.aload_n 0, 1) := by decide +kernel
set_option maxRecDepth 20000 in
theorem dX1_begin_30 : decode cX1_begin 30 = .ok (.getfield 20, 3) := by decide +kernel
set_option maxRecDepth 20000 in
theorem dX1_begin_33 : decode cX1_begin 33 = .ok (.iconst 0, 1) := by decide +kernel
set_option maxRecDepth 20000 in
theorem dX1_begin_34 : decode cX1_begin 34 = .ok (.invokevirtual 27, 3) := by decide +kernel
set_option maxRecDepth 20000 in
theorem dX1_begin_37 : decode cX1_begin 37 = .ok (.aload_n 0, 1) := by decide +kernel
set_option maxRecDepth 20000 in
theorem dX1_begin_38 : decode cX1_begin 38 = .ok (.iload_n 2, 1) := by decide +kernel
set_option maxRecDepth 20000 in
theorem dX1_begin_39 : decode cX1_begin 39 = .ok (.putfield 23, 3) := by decide +kernel
set_option maxRecDepth 20000 in
theorem dX1_begin_42 : decode cX1_begin 42 = .ok (.return_, 1) := by decide +kernel
set_option maxRecDepth 20000 in
theorem dX1_copyFrom_0 : decode cX1_copyFrom 0 = .ok (.aload_n 1, 1) := by decide +kernel
set_option maxRecDepth 20000 in
theorem dX1_copyFrom_1 : decode cX1_copyFrom 1 = .ok (.ifnonnull 4, 3) := by decide +kernel
set_option maxRecDepth 20000 in
theorem dX1_copyFrom_4 : decode cX1_copyFrom 4 = .ok (.return_, 1) := by decide +kernel
set_option maxRecDepth 20000 in
theorem dX1_copyFrom_5 : decode cX1_copyFrom 5 = .ok (.aload_n 0, 1) := by decide +kernel
set_option maxRecDepth 20000 in
theorem dX1_copyFrom_6 : decode cX1_copyFrom 6 = .ok (.getfield 14, 3) := by decide +kernel
set_option maxRecDepth 20000 in
theorem dX1_copyFrom_9 : decode cX1_copyFrom 9 = .ok (.aload_n 1, 1) := by decide +kernel
set_option maxRecDepth 20000 in
theorem dX1_copyFrom_10 : decode cX1_copyFrom 10 = .ok (.getfield 14, 3) := by decide +kernel
set_option maxRecDepth 20000 in
theorem dX1_copyFrom_13 : decode cX1_copyFrom 13 = .ok (.invokevirtual 33, 3) := by decide +kernel
set_option maxRecDepth 20000 in
theorem dX1_copyFrom_16 : decode cX1_copyFrom 16 = .ok (.aload_n 0, 1) := by decide +kernel
set_option maxRecDepth 20000 in
theorem dX1_copyFrom_17 : decode cX1_copyFrom 17 = .ok (.getfield 20, 3) := by decide +kernel
set_option maxRecDepth 20000 in
theorem dX1_copyFrom_20 : decode cX1_copyFrom 20 = .ok (.aload_n 1, 1) := by decide +kernel
set_option maxRecDepth 20000 in
theorem dX1_copyFrom_21 : decode cX1_copyFrom 21 = .ok (.getfield 20, 3) := by decide +kernel
set_option maxRecDepth 20000 in
theorem dX1_copyFrom_24 : decode cX1_copyFrom 24 = .ok (.invokevirtual 33, 3) := by decide +kernel
set_option maxRecDepth 20000 in
theorem dX1_copyFrom_27 : decode cX1_copyFrom 27 = .ok (.aload_n 0, 1) := by decide +kernel
set_option maxRecDepth 20000 in
theorem dX1_copyFrom_28 : decode cX1_copyFrom 28 = .ok (.aload_n 1, 1) := by decide +kernel
set_option maxRecDepth 20000 in
theorem dX1_copyFrom_29 : decode cX1_copyFrom 29 = .ok (.getfield 23, 3) := by decide +kernel
set_option maxRecDepth 20000 in
theorem dX1_copyFrom_32 : decode cX1_copyFrom 32 = .ok (.putfield 23, 3) := by decide +kernel
set_option maxRecDepth 20000 in
theorem dX1_copyFrom_35 : decode cX1_copyFrom 35 = .ok (.return_, 1) := by decide +kernel
set_option maxRecDepth 20000 in
theorem dX2_init_0 : decode cX2_init 0 = .ok (.aload_n 0, 1) := by decide +kernel
set_option maxRecDepth 20000 in
theorem dX2_init_1 : decode cX2_init 1 = .ok (.invokespecial 3, 3) := by decide +kernel
set_option maxRecDepth 20000 in
theorem dX2_init_4 : decode cX2_init 4 = .ok (.aload_n 0, 1) := by decide +kernel
set_option maxRecDepth 20000 in
theorem dX2_init_5 : decode cX2_init 5 = .ok (.new 9, 3) := by decide +kernel
set_option maxRecDepth 20000 in
theorem dX2_init_8 : decode cX2_init 8 = .ok (.dup, 1) := by decide +kernel
set_option maxRecDepth 20000 in
theorem dX2_init_9 : decode cX2_init 9 = .ok (.sipush 200, 3) := by decide +kernel
set_option maxRecDepth 20000 in
theorem dX2_init_12 : decode cX2_init 12 = .ok (.invokespecial 11, 3) := by decide +kernel
set_option maxRecDepth 20000 in
theorem dX2_init_15 : decode cX2_init 15 = .ok (.putfield 14, 3) := by decide +kernel
set_option maxRecDepth 20000 in
theorem dX2_init_18 : decode cX2_init 18 = .ok (.aload_n 0, 1) := by decide +kernel
set_option maxRecDepth 20000 in
theorem dX2_init_19 : decode cX2_init 19 = .ok (.new 9, 3) := by decide +kernel
set_option maxRecDepth 20000 in
theorem dX2_init_22 : decode cX2_init 22 = .ok (.dup, 1) := by decide +kernel
set_option maxRecDepth 20000 in
theorem dX2_init_23 : decode cX2_init 23 = .ok (.iconst 5, 1) := by decide +kernel
set_option maxRecDepth 20000 in
theorem dX2_init_24 : decode cX2_init 24 = .ok (.invokespecial 11, 3) := by decide +kernel
set_option maxRecDepth 20000 in
theorem dX2_init_27 : decode cX2_init 27 = .ok (.putfield 20, 3) := by decide +kernel
set_option maxRecDepth 20000 in
theorem dX2_init_30 : decode cX2_init 30 = .ok (.aload_n 0, 1) := by decide +kernel
set_option maxRecDepth 20000 in
theorem dX2_init_31 : decode cX2_init 31 = .ok (.new 9, 3) := by decide +kernel
set_option maxRecDepth 20000 in
theorem dX2_init_34 : decode cX2_init 34 = .ok (.dup, 1) := by decide +kernel
set_option maxRecDepth 20000 in
theorem dX2_init_35 : decode cX2_init 35 = .ok (.bipush 6, 2) := by decide +kernel
set_option maxRecDepth 20000 in
theorem dX2_init_37 : decode cX2_init 37 = .ok (.invokespecial 11, 3) := by decide +kernel
set_option maxRecDepth 20000 in
theorem dX2_init_40 : decode cX2_init 40 = .ok (.putfield 23, 3) := by decide +kernel
set_option maxRecDepth 20000 in
theorem dX2_init_43 : decode cX2_init 43 = .ok (.aload_n 0, 1) := by decide +kernel
set_option maxRecDepth 20000 in
theorem dX2_init_44 : decode cX2_init 44 = .ok (.iconst 0, 1) := by decide +kernel
set_option maxRecDepth 20000 in
theorem dX2_init_45 : decode cX2_init 45 = .ok (.putfield 26, 3) := by decide +kernel
set_option maxRecDepth 20000 in
theorem dX2_init_48 : decode cX2_init 48 = .ok (.aload_n 0, 1) := by decide +kernel
set_option maxRecDepth 20000 in
theorem dX2_init_49 : decode cX2_init 49 = .ok (.iconst 0, 1) := by decide +kernel
set_option maxRecDepth 20000 in
theorem dX2_init_50 : decode cX2_init 50 = .ok (.putfield 30, 3) := by decide +kernel
set_option maxRecDepth 20000 in
theorem dX2_init_53 : decode cX2_init 53 = .ok (.aload_n 0, 1) := by decide +kernel
set_option maxRecDepth 20000 in
theorem dX2_init_54 : decode cX2_init 54 = .ok (.new 9, 3) := by decide +kernel
set_option maxRecDepth 20000 in
theorem dX2_init_57 : decode cX2_init 57 = .ok (.dup, 1) := by decide +kernel
set_option maxRecDepth 20000 in
theorem dX2_init_58 : decode cX2_init 58 = .ok (.iconst 4, 1) := by decide +kernel
set_option maxRecDepth 20000 in
theorem dX2_init_59 : decode cX2_init 59 = .ok (.invokespecial 11, 3) := by decide +kernel
set_option maxRecDepth 20000 in
theorem dX2_init_62 : decode cX2_init 62 = .ok (.putfield 35, 3) := by decide +kernel
set_option maxRecDepth 20000 in
theorem dX2_init_65 : decode cX2_init 65 = .ok (.aload_n 0, 1) := by decide +kernel
set_option maxRecDepth 20000 in
theorem dX2_init_66 : decode cX2_init 66 = .ok (.iconst 0, 1) := by decide +kernel
set_option maxRecDepth 20000 in
theorem dX2_init_67 : decode cX2_init 67 = .ok (.putfield 38, 3) := by decide +kernel
set_option maxRecDepth 20000 in
theorem dX2_init_70 : decode cX2_init 70 = .ok (.aload_n 0, 1) := by decide +kernel
set_option maxRecDepth 20000 in
theorem dX2_init_71 : decode cX2_init 71 = .ok (.iconst 0, 1) := by decide +kernel
set_option maxRecDepth 20000 in
theorem dX2_init_72 : decode cX2_init 72 = .ok (.putfield 42, 3) := by decide +kernel
set_option maxRecDepth 20000 in
theorem dX2_init_75 : decode cX2_init 75 = .ok (.aload_n 0, 1) := by decide +kernel
set_option maxRecDepth 20000 in
theorem dX2_init_76 : decode cX2_init 76 = .ok (.iconst 0, 1) := by decide +kernel
set_option maxRecDepth 20000 in
theorem dX2_init_77 : decode cX2_init 77 = .ok (.putfield 45, 3) := by decide +kernel
set_option maxRecDepth 20000 in
theorem dX2_init_80 : decode cX2_init 80 = .ok (.aload_n 0, 1) := by decide +kernel
set_option maxRecDepth 20000 in
theorem dX2_init_81 : decode cX2_init 81 = .ok (.iconst 0, 1) := by decide +kernel
set_option maxRecDepth 20000 in
theorem dX2_init_82 : decode cX2_init 82 = .ok (.putfield 48, 3) := by decide +kernel
set_option maxRecDepth 20000 in
theorem dX2_init_85 : decode cX2_init 85 = .ok (.aload_n 0, 1) := by decide +kernel
set_option maxRecDepth 20000 in
theorem dX2_init_86 : decode cX2_init 86 = .ok (.iconst 0, 1) := by decide +kernel
set_option maxRecDepth 20000 in
theorem dX2_init_87 : decode cX2_init 87 = .ok (.putfield 51, 3) := by decide +kernel
set_option maxRecDepth 20000 in
theorem dX2_init_90 : decode cX2_init 90 = .ok (.return_, 1) := by decide +kernel
set_option maxRecDepth 20000 in
theorem dX2_fault_0 : decode cX2_fault 0 = .ok (.aload_n 0, 1) := by decide +kernel
set_option maxRecDepth 20000 in
theorem dX2_fault_1 : decode cX2_fault 1 = .ok (.getfield 45, 3) := by decide +kernel
set_option maxRecDepth 20000 in
theorem dX2_fault_4 : decode cX2_fault 4 = .ok (.ireturn, 1) := by decide +kernel
set_option maxRecDepth 20000 in
theorem dX2_readsAll_0 : decode cX2_readsAll 0 = .ok (.aload_n 0, 1) := by decide +kernel
set_option maxRecDepth 20000 in
theorem dX2_readsAll_1 : decode cX2_readsAll 1 = .ok (.invokevirtual 54, 3) := by decide +kernel
set_option maxRecDepth 20000 in
theorem dX2_readsAll_4 : decode cX2_readsAll 4 = .ok (.iconst 0, 1) := by decide +kernel
set_option maxRecDepth 20000 in
theorem dX2_readsAll_5 : decode cX2_readsAll 5 = .ok (.istore_n 1, 1) := by decide +kernel
set_option maxRecDepth 20000 in
theorem dX2_readsAll_6 : decode cX2_readsAll 6 = .ok (.iload_n 1, 1) := by decide +kernel
set_option maxRecDepth 20000 in
theorem dX2_readsAll_7 : decode cX2_readsAll 7 = .ok (.sipush 200, 3) := by decide +kernel
set_option maxRecDepth 20000 in
theorem dX2_readsAll_10 : decode cX2_readsAll 10 = .ok (.if_icmp .gt 96, 3) := by decide +kernel
set_option maxRecDepth 20000 in
theorem dX2_readsAll_13 : decode cX2_readsAll 13 = .ok (.aload_n 0, 1) := by decide +kernel
set_option maxRecDepth 20000 in
theorem dX2_readsAll_14 : decode cX2_readsAll 14 = .ok (.invokevirtual 57, 3) := by decide +kernel
set_option maxRecDepth 20000 in
theorem dX2_readsAll_17 : decode cX2_readsAll 17 = .ok (.aload_n 0, 1) := by decide +kernel
set_option maxRecDepth 20000 in
theorem dX2_readsAll_18 : decode cX2_readsAll 18 = .ok (.getfield 48, 3) := by decide +kernel
set_option maxRecDepth 20000 in
theorem dX2_readsAll_21 : decode cX2_readsAll 21 = .ok (.ifCond .ne 5, 3) := by decide +kernel
set_option maxRecDepth 20000 in
theorem dX2_readsAll_24 : decode cX2_readsAll 24 = .ok (.iconst 1, 1) := by decide +kernel
set_option maxRecDepth 20000 in
theorem dX2_readsAll_25 : decode cX2_readsAll 25 = .ok (.ireturn, 1) := by decide +kernel
set_option maxRecDepth 20000 in
theorem dX2_readsAll_26 : decode cX2_readsAll 26 = .ok (.iconst 0, 1) := by decide +kernel
set_option maxRecDepth 20000 in
theorem dX2_readsAll_27 : decode cX2_readsAll 27 = .ok (.istore_n 2, 1) := by decide +kernel
set_option maxRecDepth 20000 in
theorem dX2_readsAll_28 : decode cX2_readsAll 28 = .ok (.aload_n 0, 1) := by decide +kernel
set_option maxRecDepth 20000 in
theorem dX2_readsAll_29 : decode cX2_readsAll 29 = .ok (.getfield 48, 3) := by decide +kernel
set_option maxRecDepth 20000 in
theorem dX2_readsAll_32 : decode cX2_readsAll 32 = .ok (.tableswitch 52 2 4 #[28, 36, 44], 28) := by decide +kernel
set_option maxRecDepth 20000 in
theorem dX2_readsAll_60 : decode cX2_readsAll 60 = .ok (.aload_n 0, 1) := by decide +kernel
set_option maxRecDepth 20000 in
theorem dX2_readsAll_61 : decode cX2_readsAll 61 = .ok (.invokevirtual 60, 3) := by decide +kernel
set_option maxRecDepth 20000 in
theorem dX2_readsAll_64 : decode cX2_readsAll 64 = .ok (.istore_n 2, 1) := by decide +kernel
set_option maxRecDepth 20000 in
theorem dX2_readsAll_65 : decode cX2_readsAll 65 = .ok (.goto 19, 3) := by decide +kernel
set_option maxRecDepth 20000 in
theorem dX2_readsAll_68 : decode cX2_readsAll 68 = .ok (.aload_n 0, 1) := by decide +kernel
set_option maxRecDepth 20000 in
theorem dX2_readsAll_69 : decode cX2_readsAll 69 = .ok (.invokevirtual 64, 3) := by decide +kernel
set_option maxRecDepth 20000 in
theorem dX2_readsAll_72 : decode cX2_readsAll 72 = .ok (.istore_n 2, 1) := by decide +kernel
set_option maxRecDepth 20000 in
theorem dX2_readsAll_73 : decode cX2_readsAll 73 = .ok (.goto 11, 3) := by decide +kernel
set_option maxRecDepth 20000 in
theorem dX2_readsAll_76 : decode cX2_readsAll 76 = .ok (.aload_n 0, 1) := by decide +kernel
set_option maxRecDepth 20000 in
theorem dX2_readsAll_77 : decode cX2_readsAll 77 = .ok (.invokevirtual 67, 3) := by decide +kernel
set_option maxRecDepth 20000 in
theorem dX2_readsAll_80 : decode cX2_readsAll 80 = .ok (.istore_n 2, 1) := by decide +kernel
set_option maxRecDepth 20000 in
theorem dX2_readsAll_81 : decode cX2_readsAll 81 = .ok (.goto 3, 3) := by decide +kernel
set_option maxRecDepth 20000 in
theorem dX2_readsAll_84 : decode cX2_readsAll 84 = .ok (.iload_n 2, 1) := by decide +kernel
set_option maxRecDepth 20000 in
theorem dX2_readsAll_85 : decode cX2_readsAll 85 = .ok (.ifCond .ne 5, 3) := by decide +kernel
set_option maxRecDepth 20000 in
theorem dX2_readsAll_88 : decode cX2_readsAll 88 = .ok (.iconst 0, 1) := by decide +kernel
set_option maxRecDepth 20000 in
theorem dX2_readsAll_89 : decode cX2_readsAll 89 = .ok (.ireturn, 1) := by decide +kernel
set_option maxRecDepth 20000 in
theorem dX2_readsAll_90 : decode cX2_readsAll 90 = .ok (.aload_n 0, 1) := by decide +kernel
set_option maxRecDepth 20000 in
theorem dX2_readsAll_91 : decode cX2_readsAll 91 = .ok (.dup, 1) := by decide +kernel
set_option maxRecDepth 20000 in
theorem dX2_readsAll_92 : decode cX2_readsAll 92 = .ok (.getfield 30, 3) := by decide +kernel
set_option maxRecDepth 20000 in
theorem dX2_readsAll_95 : decode cX2_readsAll 95 = .ok (.iconst 1, 1) := by decide +kernel
set_option maxRecDepth 20000 in
theorem dX2_readsAll_96 : decode cX2_readsAll 96 = .ok (.iadd, 1) := by decide +kernel
set_option maxRecDepth 20000 in
theorem dX2_readsAll_97 : decode cX2_readsAll 97 = .ok (.putfield 30, 3) := by decide +kernel
set_option maxRecDepth 20000 in
theorem dX2_readsAll_100 : decode cX2_readsAll 100 = .ok (.iinc 1 1, 3) := by decide +kernel
set_option maxRecDepth 20000 in
theorem dX2_readsAll_103 : decode cX2_readsAll 103 = .ok (.goto (-97), 3) := by decide +kernel
set_option maxRecDepth 20000 in
theorem dX2_readsAll_106 : decode cX2_readsAll 106 = .ok (.iconst 0, 1) := by decide +kernel
set_option maxRecDepth 20000 in
theorem dX2_readsAll_107 : decode cX2_readsAll 107 = .ok (.ireturn, 1) := by decide +kernel
set_option maxRecDepth 20000 in
theorem dX2_beginAnew_0 : decode cX2_beginAnew 0 = .ok (.aload_n 0, 1) := by decide +kernel
set_option maxRecDepth 20000 in
theorem dX2_beginAnew_1 : decode cX2_beginAnew 1 = .ok (.getfield 20, 3) := by decide +kernel
set_option maxRecDepth 20000 in
theorem dX2_beginAnew_4 : decode cX2_beginAnew 4 = .ok (.iconst 0, 1) := by decide +kernel
set_option maxRecDepth 20000 in
theorem dX2_beginAnew_5 : decode cX2_beginAnew 5 = .ok (.invokevirtual 70, 3) := by decide +kernel
set_option maxRecDepth 20000 in
theorem dX2_beginAnew_8 : decode cX2_beginAnew 8 = .ok (.aload_n 0, 1) := by decide +kernel
set_option maxRecDepth 20000 in
theorem dX2_beginAnew_9 : decode cX2_beginAnew 9 = .ok (.getfield 23, 3) := by decide +kernel
set_option maxRecDepth 20000 in
theorem dX2_beginAnew_12 : decode cX2_beginAnew 12 = .ok (.iconst 0, 1) := by decide +kernel
set_option maxRecDepth 20000 in
theorem dX2_beginAnew_13 : decode cX2_beginAnew 13 = .ok (.invokevirtual 70, 3) := by decide +kernel
set_option maxRecDepth 20000 in
theorem dX2_beginAnew_16 : decode cX2_beginAnew 16 = .ok (.aload_n 0, 1) := by decide +kernel
set_option maxRecDepth 20000 in
theorem dX2_beginAnew_17 : decode cX2_beginAnew 17 = .ok (.iconst 0, 1) := by decide +kernel
set_option maxRecDepth 20000 in
theorem dX2_beginAnew_18 : decode cX2_beginAnew 18 = .ok (.putfield 26, 3) := by decide +kernel
set_option maxRecDepth 20000 in
theorem dX2_beginAnew_21 : decode cX2_beginAnew 21 = .ok (.aload_n 0, 1) := by decide +kernel
set_option maxRecDepth 20000 in
theorem dX2_beginAnew_22 : decode cX2_beginAnew 22 = .ok (.iconst 0, 1) := by decide +kernel
set_option maxRecDepth 20000 in
theorem dX2_beginAnew_23 : decode cX2_beginAnew 23 = .ok (.putfield 38, 3) := by decide +kernel
set_option maxRecDepth 20000 in
theorem dX2_beginAnew_26 : decode cX2_beginAnew 26 = .ok (.aload_n 0, 1) := by decide +kernel
set_option maxRecDepth 20000 in
theorem dX2_beginAnew_27 : decode cX2_beginAnew 27 = .ok (.iconst 0, 1) := by decide +kernel
set_option maxRecDepth 20000 in
theorem dX2_beginAnew_28 : decode cX2_beginAnew 28 = .ok (.putfield 30, 3) := by decide +kernel
set_option maxRecDepth 20000 in
theorem dX2_beginAnew_31 : decode cX2_beginAnew 31 = .ok (.aload_n 0, 1) := by decide +kernel
set_option maxRecDepth 20000 in
theorem dX2_beginAnew_32 : decode cX2_beginAnew 32 = .ok (.iconst 0, 1) := by decide +kernel
set_option maxRecDepth 20000 in
theorem dX2_beginAnew_33 : decode cX2_beginAnew 33 = .ok (.putfield 42, 3) := by decide +kernel
set_option maxRecDepth 20000 in
theorem dX2_beginAnew_36 : decode cX2_beginAnew 36 = .ok (.return_, 1) := by decide +kernel
set_option maxRecDepth 20000 in
theorem dX2_readsLoad_0 : decode cX2_readsLoad 0 = .ok (.aload_n 0, 1) := by decide +kernel
set_option maxRecDepth 20000 in
theorem dX2_readsLoad_1 : decode cX2_readsLoad 1 = .ok (.getfield 20, 3) := by decide +kernel
set_option maxRecDepth 20000 in
theorem dX2_readsLoad_4 : decode cX2_readsLoad 4 = .ok (.invokevirtual 73, 3) := by decide +kernel
set_option maxRecDepth 20000 in
theorem dX2_readsLoad_7 : decode cX2_readsLoad 7 = .ok (.iconst 5, 1) := by decide +kernel
set_option maxRecDepth 20000 in
theorem dX2_readsLoad_8 : decode cX2_readsLoad 8 = .ok (.if_icmp .ge 13, 3) := by decide +kernel
set_option maxRecDepth 20000 in
theorem dX2_readsLoad_11 : decode cX2_readsLoad 11 = .ok (.aload_n 0, 1) := by decide +kernel
set_option maxRecDepth 20000 in
theorem dX2_readsLoad_12 : decode cX2_readsLoad 12 = .ok (.iconst 0, 1) := by decide +kernel
set_option maxRecDepth 20000 in
theorem dX2_readsLoad_13 : decode cX2_readsLoad 13 = .ok (.bipush 60, 2) := by decide +kernel
set_option maxRecDepth 20000 in
theorem dX2_readsLoad_15 : decode cX2_readsLoad 15 = .ok (.invokevirtual 77, 3) := by decide +kernel
set_option maxRecDepth 20000 in
theorem dX2_readsLoad_18 : decode cX2_readsLoad 18 = .ok (.ifCond .ne 5, 3) := by decide +kernel
set_option maxRecDepth 20000 in
theorem dX2_readsLoad_21 : decode cX2_readsLoad 21 = .ok (.iconst 0, 1) := by decide +kernel
set_option maxRecDepth 20000 in
theorem dX2_readsLoad_22 : decode cX2_readsLoad 22 = .ok (.ireturn, 1) := by decide +kernel
set_option maxRecDepth 20000 in
theorem dX2_readsLoad_23 : decode cX2_readsLoad 23 = .ok (.aload_n 0, 1) := by decide +kernel
set_option maxRecDepth 20000 in
theorem dX2_readsLoad_24 : decode cX2_readsLoad 24 = .ok (.getfield 20, 3) := by decide +kernel
set_option maxRecDepth 20000 in
theorem dX2_readsLoad_27 : decode cX2_readsLoad 27 = .ok (.aload_n 0, 1) := by decide +kernel
set_option maxRecDepth 20000 in
theorem dX2_readsLoad_28 : decode cX2_readsLoad 28 = .ok (.getfield 51, 3) := by decide +kernel
set_option maxRecDepth 20000 in
theorem dX2_readsLoad_31 : decode cX2_readsLoad 31 = .ok (.invokevirtual 81, 3) := by decide +kernel
set_option maxRecDepth 20000 in
theorem dX2_readsLoad_34 : decode cX2_readsLoad 34 = .ok (.aload_n 0, 1) := by decide +kernel
set_option maxRecDepth 20000 in
theorem dX2_readsLoad_35 : decode cX2_readsLoad 35 = .ok (.invokevirtual 84, 3) := by decide +kernel
set_option maxRecDepth 20000 in
theorem dX2_readsLoad_38 : decode cX2_readsLoad 38 = .ok (.ireturn, 1) := by decide +kernel
set_option maxRecDepth 20000 in
theorem dX2_readsTaster_0 : decode cX2_readsTaster 0 = .ok (.aload_n 0, 1) := by decide +kernel
set_option maxRecDepth 20000 in
theorem dX2_readsTaster_1 : decode cX2_readsTaster 1 = .ok (.getfield 23, 3) := by decide +kernel
set_option maxRecDepth 20000 in
theorem dX2_readsTaster_4 : decode cX2_readsTaster 4 = .ok (.invokevirtual 73, 3) := by decide +kernel
set_option maxRecDepth 20000 in
theorem dX2_readsTaster_7 : decode cX2_readsTaster 7 = .ok (.bipush 6, 2) := by decide +kernel
set_option maxRecDepth 20000 in
theorem dX2_readsTaster_9 : decode cX2_readsTaster 9 = .ok (.if_icmp .lt 5, 3) := by decide +kernel
set_option maxRecDepth 20000 in
theorem dX2_readsTaster_12 : decode cX2_readsTaster 12 = .ok (.iconst 0, 1) := by decide +kernel
set_option maxRecDepth 20000 in
theorem dX2_readsTaster_13 : decode cX2_readsTaster 13 = .ok (.ireturn, 1) := by decide +kernel
set_option maxRecDepth 20000 in
theorem dX2_readsTaster_14 : decode cX2_readsTaster 14 = .ok (.aload_n 0, 1) := by decide +kernel
set_option maxRecDepth 20000 in
theorem dX2_readsTaster_15 : decode cX2_readsTaster 15 = .ok (.getfield 35, 3) := by decide +kernel
set_option maxRecDepth 20000 in
theorem dX2_readsTaster_18 : decode cX2_readsTaster 18 = .ok (.iconst 0, 1) := by decide +kernel
set_option maxRecDepth 20000 in
theorem dX2_readsTaster_19 : decode cX2_readsTaster 19 = .ok (.invokevirtual 70, 3) := by decide +kernel
set_option maxRecDepth 20000 in
theorem dX2_readsTaster_22 : decode cX2_readsTaster 22 = .ok (.iconst 0, 1) := by decide +kernel
set_option maxRecDepth 20000 in
theorem dX2_readsTaster_23 : decode cX2_readsTaster 23 = .ok (.istore_n 1, 1) := by decide +kernel
set_option maxRecDepth 20000 in
theorem dX2_readsTaster_24 : decode cX2_readsTaster 24 = .ok (.iload_n 1, 1) := by decide +kernel
set_option maxRecDepth 20000 in
theorem dX2_readsTaster_25 : decode cX2_readsTaster 25 = .ok (.iconst 4, 1) := by decide +kernel
set_option maxRecDepth 20000 in
theorem dX2_readsTaster_26 : decode cX2_readsTaster 26 = .ok (.if_icmp .ge 37, 3) := by decide +kernel
set_option maxRecDepth 20000 in
theorem dX2_readsTaster_29 : decode cX2_readsTaster 29 = .ok (.aload_n 0, 1) := by decide +kernel
set_option maxRecDepth 20000 in
theorem dX2_readsTaster_30 : decode cX2_readsTaster 30 = .ok (.iload_n 1, 1) := by decide +kernel
set_option maxRecDepth 20000 in
theorem dX2_readsTaster_31 : decode cX2_readsTaster 31 = .ok (.invokestatic 87, 3) := by decide +kernel
set_option maxRecDepth 20000 in
theorem dX2_readsTaster_34 : decode cX2_readsTaster 34 = .ok (.iload_n 1, 1) := by decide +kernel
set_option maxRecDepth 20000 in
theorem dX2_readsTaster_35 : decode cX2_readsTaster 35 = .ok (.invokestatic 91, 3) := by decide +kernel
set_option maxRecDepth 20000 in
theorem dX2_readsTaster_38 : decode cX2_readsTaster 38 = .ok (.invokevirtual 77, 3) := by decide +kernel
set_option maxRecDepth 20000 in
theorem dX2_readsTaster_41 : decode cX2_readsTaster 41 = .ok (.ifCond .ne 5, 3) := by decide +kernel
set_option maxRecDepth 20000 in
theorem dX2_readsTaster_44 : decode cX2_readsTaster 44 = .ok (.iconst 0, 1) := by decide +kernel
set_option maxRecDepth 20000 in
theorem dX2_readsTaster_45 : decode cX2_readsTaster 45 = .ok (.ireturn, 1) := by decide +kernel
set_option maxRecDepth 20000 in
theorem dX2_readsTaster_46 : decode cX2_readsTaster 46 = .ok (.aload_n 0, 1) := by decide +kernel
set_option maxRecDepth 20000 in
theorem dX2_readsTaster_47 : decode cX2_readsTaster 47 = .ok (.getfield 35, 3) := by decide +kernel
set_option maxRecDepth 20000 in
theorem dX2_readsTaster_50 : decode cX2_readsTaster 50 = .ok (.aload_n 0, 1) := by decide +kernel
set_option maxRecDepth 20000 in
theorem dX2_readsTaster_51 : decode cX2_readsTaster 51 = .ok (.getfield 51, 3) := by decide +kernel
set_option maxRecDepth 20000 in
theorem dX2_readsTaster_54 : decode cX2_readsTaster 54 = .ok (.invokevirtual 81, 3) := by decide +kernel
set_option maxRecDepth 20000 in
theorem dX2_readsTaster_57 : decode cX2_readsTaster 57 = .ok (.iinc 1 1, 3) := by decide +kernel
set_option maxRecDepth 20000 in
theorem dX2_readsTaster_60 : decode cX2_readsTaster 60 = .ok (.goto (-36), 3) := by decide +kernel
set_option maxRecDepth 20000 in
theorem dX2_readsTaster_63 : decode cX2_readsTaster 63 = .ok (.aload_n 0, 1) := by decide +kernel
set_option maxRecDepth 20000 in
theorem dX2_readsTaster_64 : decode cX2_readsTaster 64 = .ok (.getfield 23, 3) := by decide +kernel
set_option maxRecDepth 20000 in
theorem dX2_readsTaster_67 : decode cX2_readsTaster 67 = .ok (.aload_n 0, 1) := by decide +kernel
set_option maxRecDepth 20000 in
theorem dX2_readsTaster_68 : decode cX2_readsTaster 68 = .ok (.getfield 35, 3) := by decide +kernel
set_option maxRecDepth 20000 in
theorem dX2_readsTaster_71 : decode cX2_readsTaster 71 = .ok (.iconst 0, 1) := by decide +kernel
set_option maxRecDepth 20000 in
theorem dX2_readsTaster_72 : decode cX2_readsTaster 72 = .ok (.invokevirtual 94, 3) := by decide +kernel
set_option maxRecDepth 20000 in
theorem dX2_readsTaster_75 : decode cX2_readsTaster 75 = .ok (.aload_n 0, 1) := by decide +kernel
set_option maxRecDepth 20000 in
theorem dX2_readsTaster_76 : decode cX2_readsTaster 76 = .ok (.getfield 35, 3) := by decide +kernel
set_option maxRecDepth 20000 in
theorem dX2_readsTaster_79 : decode cX2_readsTaster 79 = .ok (.iconst 1, 1) := by decide +kernel
set_option maxRecDepth 20000 in
theorem dX2_readsTaster_80 : decode cX2_readsTaster 80 = .ok (.invokevirtual 94, 3) := by decide +kernel
set_option maxRecDepth 20000 in
theorem dX2_readsTaster_83 : decode cX2_readsTaster 83 = .ok (.aload_n 0, 1) := by decide +kernel
set_option maxRecDepth 20000 in
theorem dX2_readsTaster_84 : decode cX2_readsTaster 84 = .ok (.getfield 35, 3) := by decide +kernel
set_option maxRecDepth 20000 in
theorem dX2_readsTaster_87 : decode cX2_readsTaster 87 = .ok (.iconst 2, 1) := by decide +kernel
set_option maxRecDepth 20000 in
theorem dX2_readsTaster_88 : decode cX2_readsTaster 88 = .ok (.invokevirtual 94, 3) := by decide +kernel
set_option maxRecDepth 20000 in
theorem dX2_readsTaster_91 : decode cX2_readsTaster 91 = .ok (.aload_n 0, 1) := by decide +kernel
set_option maxRecDepth 20000 in
theorem dX2_readsTaster_92 : decode cX2_readsTaster 92 = .ok (.getfield 35, 3) := by decide +kernel
set_option maxRecDepth 20000 in
theorem dX2_readsTaster_95 : decode cX2_readsTaster 95 = .ok (.iconst 3, 1) := by decide +kernel
set_option maxRecDepth 20000 in
theorem dX2_readsTaster_96 : decode cX2_readsTaster 96 = .ok (.invokevirtual 94, 3) := by decide +kernel
set_option maxRecDepth 20000 in
theorem dX2_readsTaster_99 : decode cX2_readsTaster 99 = .ok (.invokestatic 97, 3) := by decide +kernel
set_option maxRecDepth 20000 in
theorem dX2_readsTaster_102 : decode cX2_readsTaster 102 = .ok (.invokevirtual 81, 3) := by decide +kernel
set_option maxRecDepth 20000 in
theorem dX2_readsTaster_105 : decode cX2_readsTaster 105 = .ok (.aload_n 0, 1) := by decide +kernel
set_option maxRecDepth 20000 in
theorem dX2_readsTaster_106 : decode cX2_readsTaster 106 = .ok (.invokevirtual 84, 3) := by decide +kernel
set_option maxRecDepth 20000 in
theorem dX2_readsTaster_109 : decode cX2_readsTaster 109 = .ok (.ireturn, 1) := by decide +kernel
set_option maxRecDepth 20000 in
theorem dX2_readsHeat_0 : decode cX2_readsHeat 0 = .ok (.aload_n 0, 1) := by decide +kernel
set_option maxRecDepth 20000 in
theorem dX2_readsHeat_1 : decode cX2_readsHeat 1 = .ok (.getfield 38, 3) := by decide +kernel
set_option maxRecDepth 20000 in
theorem dX2_readsHeat_4 : decode cX2_readsHeat 4 = .ok (.ifCond .ne 13, 3) := by decide +kernel
set_option maxRecDepth 20000 in
theorem dX2_readsHeat_7 : decode cX2_readsHeat 7 = .ok (.aload_n 0, 1) := by decide +kernel
set_option maxRecDepth 20000 in
theorem dX2_readsHeat_8 : decode cX2_readsHeat 8 = .ok (.iconst 0, 1) := by decide +kernel
set_option maxRecDepth 20000 in
theorem dX2_readsHeat_9 : decode cX2_readsHeat 9 = .ok (.bipush 9, 2) := by decide +kernel
set_option maxRecDepth 20000 in
theorem dX2_readsHeat_11 : decode cX2_readsHeat 11 = .ok (.invokevirtual 77, 3) := by decide +kernel
set_option maxRecDepth 20000 in
theorem dX2_readsHeat_14 : decode cX2_readsHeat 14 = .ok (.ifCond .ne 5, 3) := by decide +kernel
set_option maxRecDepth 20000 in
theorem dX2_readsHeat_17 : decode cX2_readsHeat 17 = .ok (.iconst 0, 1) := by decide +kernel
set_option maxRecDepth 20000 in
theorem dX2_readsHeat_18 : decode cX2_readsHeat 18 = .ok (.ireturn, 1) := by decide +kernel
set_option maxRecDepth 20000 in
theorem dX2_readsHeat_19 : decode cX2_readsHeat 19 = .ok (.aload_n 0, 1) := by decide +kernel
set_option maxRecDepth 20000 in
theorem dX2_readsHeat_20 : decode cX2_readsHeat 20 = .ok (.iconst 1, 1) := by decide +kernel
set_option maxRecDepth 20000 in
theorem dX2_readsHeat_21 : decode cX2_readsHeat 21 = .ok (.putfield 38, 3) := by decide +kernel
set_option maxRecDepth 20000 in
theorem dX2_readsHeat_24 : decode cX2_readsHeat 24 = .ok (.aload_n 0, 1) := by decide +kernel
set_option maxRecDepth 20000 in
theorem dX2_readsHeat_25 : decode cX2_readsHeat 25 = .ok (.aload_n 0, 1) := by decide +kernel
set_option maxRecDepth 20000 in
theorem dX2_readsHeat_26 : decode cX2_readsHeat 26 = .ok (.getfield 51, 3) := by decide +kernel
set_option maxRecDepth 20000 in
theorem dX2_readsHeat_29 : decode cX2_readsHeat 29 = .ok (.putfield 26, 3) := by decide +kernel
set_option maxRecDepth 20000 in
theorem dX2_readsHeat_32 : decode cX2_readsHeat 32 = .ok (.aload_n 0, 1) := by decide +kernel
set_option maxRecDepth 20000 in
theorem dX2_readsHeat_33 : decode cX2_readsHeat 33 = .ok (.invokevirtual 84, 3) := by decide +kernel
set_option maxRecDepth 20000 in
theorem dX2_readsHeat_36 : decode cX2_readsHeat 36 = .ok (.ireturn, 1) := by decide +kernel
set_option maxRecDepth 20000 in
theorem dX2_readsNumber_0 : decode cX2_readsNumber 0 = .ok (.aload_n 0, 1) := by decide +kernel
set_option maxRecDepth 20000 in
theorem dX2_readsNumber_1 : decode cX2_readsNumber 1 = .ok (.invokevirtual 57, 3) := by decide +kernel
set_option maxRecDepth 20000 in
theorem dX2_readsNumber_4 : decode cX2_readsNumber 4 = .ok (.aload_n 0, 1) := by decide +kernel
set_option maxRecDepth 20000 in
theorem dX2_readsNumber_5 : decode cX2_readsNumber 5 = .ok (.getfield 48, 3) := by decide +kernel
set_option maxRecDepth 20000 in
theorem dX2_readsNumber_8 : decode cX2_readsNumber 8 = .ok (.iconst 5, 1) := by decide +kernel
set_option maxRecDepth 20000 in
theorem dX2_readsNumber_9 : decode cX2_readsNumber 9 = .ok (.if_icmp .ne 23, 3) := by decide +kernel
set_option maxRecDepth 20000 in
theorem dX2_readsNumber_12 : decode cX2_readsNumber 12 = .ok (.aload_n 0, 1) := by decide +kernel
set_option maxRecDepth 20000 in
theorem dX2_readsNumber_13 : decode cX2_readsNumber 13 = .ok (.getfield 51, 3) := by decide +kernel
set_option maxRecDepth 20000 in
theorem dX2_readsNumber_16 : decode cX2_readsNumber 16 = .ok (.iload_n 1, 1) := by decide +kernel
set_option maxRecDepth 20000 in
theorem dX2_readsNumber_17 : decode cX2_readsNumber 17 = .ok (.if_icmp .lt 15, 3) := by decide +kernel
set_option maxRecDepth 20000 in
theorem dX2_readsNumber_20 : decode cX2_readsNumber 20 = .ok (.aload_n 0, 1) := by decide +kernel
set_option maxRecDepth 20000 in
theorem dX2_readsNumber_21 : decode cX2_readsNumber 21 = .ok (.getfield 51, 3) := by decide +kernel
set_option maxRecDepth 20000 in
theorem dX2_readsNumber_24 : decode cX2_readsNumber 24 = .ok (.iload_n 2, 1) := by decide +kernel
set_option maxRecDepth 20000 in
theorem dX2_readsNumber_25 : decode cX2_readsNumber 25 = .ok (.if_icmp .gt 7, 3) := by decide +kernel
set_option maxRecDepth 20000 in
theorem dX2_readsNumber_28 : decode cX2_readsNumber 28 = .ok (.iconst 1, 1) := by decide +kernel
set_option maxRecDepth 20000 in
theorem dX2_readsNumber_29 : decode cX2_readsNumber 29 = .ok (.goto 4, 3) := by decide +kernel
set_option maxRecDepth 20000 in
theorem dX2_readsNumber_32 : decode cX2_readsNumber 32 = .ok (.iconst 0, 1) := by decide +kernel
set_option maxRecDepth 20000 in
theorem dX2_readsNumber_33 : decode cX2_readsNumber 33 = .ok (.ireturn, 1) := by decide +kernel
set_option maxRecDepth 20000 in
theorem dX2_readsEndOfItem_0 : decode cX2_readsEndOfItem 0 = .ok (.aload_n 0, 1) := by decide +kernel
set_option maxRecDepth 20000 in
theorem dX2_readsEndOfItem_1 : decode cX2_readsEndOfItem 1 = .ok (.invokevirtual 57, 3) := by decide +kernel
set_option maxRecDepth 20000 in
theorem dX2_readsEndOfItem_4 : decode cX2_readsEndOfItem 4 = .ok (.aload_n 0, 1) := by decide +kernel
set_option maxRecDepth 20000 in
theorem dX2_readsEndOfItem_5 : decode cX2_readsEndOfItem 5 = .ok (.getfield 48, 3) := by decide +kernel
set_option maxRecDepth 20000 in
theorem dX2_readsEndOfItem_8 : decode cX2_readsEndOfItem 8 = .ok (.bipush 6, 2) := by decide +kernel
set_option maxRecDepth 20000 in
theorem dX2_readsEndOfItem_10 : decode cX2_readsEndOfItem 10 = .ok (.if_icmp .ne 7, 3) := by decide +kernel
set_option maxRecDepth 20000 in
theorem dX2_readsEndOfItem_13 : decode cX2_readsEndOfItem 13 = .ok (.iconst 1, 1) := by decide +kernel
set_option maxRecDepth 20000 in
theorem dX2_readsEndOfItem_14 : decode cX2_readsEndOfItem 14 = .ok (.goto 4, 3) := by decide +kernel
set_option maxRecDepth 20000 in
theorem dX2_readsEndOfItem_17 : decode cX2_readsEndOfItem 17 = .ok (.iconst 0, 1) := by decide +kernel
set_option maxRecDepth 20000 in
theorem dX2_readsEndOfItem_18 : decode cX2_readsEndOfItem 18 = .ok (.ireturn, 1) := by decide +kernel
set_option maxRecDepth 20000 in
theorem dX2_readToken_0 : decode cX2_readToken 0 = .ok (.aload_n 0, 1) := by decide +kernel
set_option maxRecDepth 20000 in
theorem dX2_readToken_1 : decode cX2_readToken 1 = .ok (.getfield 42, 3) := by decide +kernel
set_option maxRecDepth 20000 in
theorem dX2_readToken_4 : decode cX2_readToken 4 = .ok (.aload_n 0, 1) := by decide +kernel
set_option maxRecDepth 20000 in
theorem dX2_readToken_5 : decode cX2_readToken 5 = .ok (.getfield 14, 3) := by decide +kernel
set_option maxRecDepth 20000 in
theorem dX2_readToken_8 : decode cX2_readToken 8 = .ok (.invokevirtual 73, 3) := by decide +kernel
set_option maxRecDepth 20000 in
theorem dX2_readToken_11 : decode cX2_readToken 11 = .ok (.if_icmp .ge 32, 3) := by decide +kernel
set_option maxRecDepth 20000 in
theorem dX2_readToken_14 : decode cX2_readToken 14 = .ok (.aload_n 0, 1) := by decide +kernel
set_option maxRecDepth 20000 in
theorem dX2_readToken_15 : decode cX2_readToken 15 = .ok (.getfield 14, 3) := by decide +kernel
set_option maxRecDepth 20000 in
theorem dX2_readToken_18 : decode cX2_readToken 18 = .ok (.aload_n 0, 1) := by decide +kernel
set_option maxRecDepth 20000 in
theorem dX2_readToken_19 : decode cX2_readToken 19 = .ok (.getfield 42, 3) := by decide +kernel
set_option maxRecDepth 20000 in
theorem dX2_readToken_22 : decode cX2_readToken 22 = .ok (.invokevirtual 94, 3) := by decide +kernel
set_option maxRecDepth 20000 in
theorem dX2_readToken_25 : decode cX2_readToken 25 = .ok (.bipush 32, 2) := by decide +kernel
set_option maxRecDepth 20000 in
theorem dX2_readToken_27 : decode cX2_readToken 27 = .ok (.if_icmp .ne 16, 3) := by decide +kernel
set_option maxRecDepth 20000 in
theorem dX2_readToken_30 : decode cX2_readToken 30 = .ok (.aload_n 0, 1) := by decide +kernel
set_option maxRecDepth 20000 in
theorem dX2_readToken_31 : decode cX2_readToken 31 = .ok (.dup, 1) := by decide +kernel
set_option maxRecDepth 20000 in
theorem dX2_readToken_32 : decode cX2_readToken 32 = .ok (.getfield 42, 3) := by decide +kernel
set_option maxRecDepth 20000 in
theorem dX2_readToken_35 : decode cX2_readToken 35 = .ok (.iconst 1, 1) := by decide +kernel
set_option maxRecDepth 20000 in
theorem dX2_readToken_36 : decode cX2_readToken 36 = .ok (.iadd, 1) := by decide +kernel
set_option maxRecDepth 20000 in
theorem dX2_readToken_37 : decode cX2_readToken 37 = .ok (.putfield 42, 3) := by decide +kernel
set_option maxRecDepth 20000 in
theorem dX2_readToken_40 : decode cX2_readToken 40 = .ok (.goto (-40), 3) := by decide +kernel
set_option maxRecDepth 20000 in
theorem dX2_readToken_43 : decode cX2_readToken 43 = .ok (.aload_n 0, 1) := by decide +kernel
set_option maxRecDepth 20000 in
theorem dX2_readToken_44 : decode cX2_readToken 44 = .ok (.aload_n 0, 1) := by decide +kernel
set_option maxRecDepth 20000 in
theorem dX2_readToken_45 : decode cX2_readToken 45 = .ok (.getfield 42, 3) := by decide +kernel
set_option maxRecDepth 20000 in
theorem dX2_readToken_48 : decode cX2_readToken 48 = .ok (.putfield 45, 3) := by decide +kernel
set_option maxRecDepth 20000 in
theorem dX2_readToken_51 : decode cX2_readToken 51 = .ok (.aload_n 0, 1) := by decide +kernel
set_option maxRecDepth 20000 in
theorem dX2_readToken_52 : decode cX2_readToken 52 = .ok (.getfield 42, 3) := by decide +kernel
set_option maxRecDepth 20000 in
theorem dX2_readToken_55 : decode cX2_readToken 55 = .ok (.aload_n 0, 1) := by decide +kernel
set_option maxRecDepth 20000 in
theorem dX2_readToken_56 : decode cX2_readToken 56 = .ok (.getfield 14, 3) := by decide +kernel
set_option maxRecDepth 20000 in
theorem dX2_readToken_59 : decode cX2_readToken 59 = .ok (.invokevirtual 73, 3) := by decide +kernel
set_option maxRecDepth 20000 in
theorem dX2_readToken_62 : decode cX2_readToken 62 = .ok (.if_icmp .lt 11, 3) := by decide +kernel
set_option maxRecDepth 20000 in
theorem dX2_readToken_65 : decode cX2_readToken 65 = .ok (.aload_n 0, 1) := by decide +kernel
set_option maxRecDepth 20000 in
theorem dX2_readToken_66 : decode cX2_readToken 66 = .ok (.iconst 0, 1) := by decide +kernel
set_option maxRecDepth 20000 in
theorem dX2_readToken_67 : decode cX2_readToken 67 = .ok (.putfield 48, 3) := by decide +kernel
set_option maxRecDepth 20000 in
theorem dX2_readToken_70 : decode cX2_readToken 70 = .ok (.goto 87, 3) := by decide +kernel
set_option maxRecDepth 20000 in
theorem dX2_readToken_73 : decode cX2_readToken 73 = .ok (.aload_n 0, 1) := by decide +kernel
set_option maxRecDepth 20000 in
theorem dX2_readToken_74 : decode cX2_readToken 74 = .ok (.getfield 14, 3) := by decide +kernel
set_option maxRecDepth 20000 in
theorem dX2_readToken_77 : decode cX2_readToken 77 = .ok (.aload_n 0, 1) := by decide +kernel
set_option maxRecDepth 20000 in
theorem dX2_readToken_78 : decode cX2_readToken 78 = .ok (.getfield 42, 3) := by decide +kernel
set_option maxRecDepth 20000 in
theorem dX2_readToken_81 : decode cX2_readToken 81 = .ok (.invokevirtual 94, 3) := by decide +kernel
set_option maxRecDepth 20000 in
theorem dX2_readToken_84 : decode cX2_readToken 84 = .ok (.invokestatic 101, 3) := by decide +kernel
set_option maxRecDepth 20000 in
theorem dX2_readToken_87 : decode cX2_readToken 87 = .ok (.ifCond .eq 10, 3) := by decide +kernel
set_option maxRecDepth 20000 in
theorem dX2_readToken_90 : decode cX2_readToken 90 = .ok (.aload_n 0, 1) := by decide +kernel
set_option maxRecDepth 20000 in
theorem dX2_readToken_91 : decode cX2_readToken 91 = .ok (.invokevirtual 105, 3) := by decide +kernel
set_option maxRecDepth 20000 in
theorem dX2_readToken_94 : decode cX2_readToken 94 = .ok (.goto 63, 3) := by decide +kernel
set_option maxRecDepth 20000 in
theorem dX2_readToken_97 : decode cX2_readToken 97 = .ok (.aload_n 0, 1) := by decide +kernel
set_option maxRecDepth 20000 in
theorem dX2_readToken_98 : decode cX2_readToken 98 = .ok (.getfield 14, 3) := by decide +kernel
set_option maxRecDepth 20000 in
theorem dX2_readToken_101 : decode cX2_readToken 101 = .ok (.aload_n 0, 1) := by decide +kernel
set_option maxRecDepth 20000 in
theorem dX2_readToken_102 : decode cX2_readToken 102 = .ok (.getfield 42, 3) := by decide +kernel
set_option maxRecDepth 20000 in
theorem dX2_readToken_105 : decode cX2_readToken 105 = .ok (.invokevirtual 94, 3) := by decide +kernel
set_option maxRecDepth 20000 in
theorem dX2_readToken_108 : decode cX2_readToken 108 = .ok (.invokestatic 108, 3) := by decide +kernel
set_option maxRecDepth 20000 in
theorem dX2_readToken_111 : decode cX2_readToken 111 = .ok (.ifCond .eq 10, 3) := by decide +kernel
set_option maxRecDepth 20000 in
theorem dX2_readToken_114 : decode cX2_readToken 114 = .ok (.aload_n 0, 1) := by decide +kernel
set_option maxRecDepth 20000 in
theorem dX2_readToken_115 : decode cX2_readToken 115 = .ok (.invokevirtual 111, 3) := by decide +kernel
set_option maxRecDepth 20000 in
theorem dX2_readToken_118 : decode cX2_readToken 118 = .ok (.goto 39, 3) := by decide +kernel
set_option maxRecDepth 20000 in
theorem dX2_readToken_121 : decode cX2_readToken 121 = .ok (.aload_n 0, 1) := by decide +kernel
set_option maxRecDepth 20000 in
theorem dX2_readToken_122 : decode cX2_readToken 122 = .ok (.aload_n 0, 1) := by decide +kernel
set_option maxRecDepth 20000 in
theorem dX2_readToken_123 : decode cX2_readToken 123 = .ok (.getfield 14, 3) := by decide +kernel
set_option maxRecDepth 20000 in
theorem dX2_readToken_126 : decode cX2_readToken 126 = .ok (.aload_n 0, 1) := by decide +kernel
set_option maxRecDepth 20000 in
theorem dX2_readToken_127 : decode cX2_readToken 127 = .ok (.getfield 42, 3) := by decide +kernel
set_option maxRecDepth 20000 in
theorem dX2_readToken_130 : decode cX2_readToken 130 = .ok (.invokevirtual 94, 3) := by decide +kernel
set_option maxRecDepth 20000 in
theorem dX2_readToken_133 : decode cX2_readToken 133 = .ok (.bipush 59, 2) := by decide +kernel
set_option maxRecDepth 20000 in
theorem dX2_readToken_135 : decode cX2_readToken 135 = .ok (.if_icmp .ne 8, 3) := by decide +kernel
set_option maxRecDepth 20000 in
theorem dX2_readToken_138 : decode cX2_readToken 138 = .ok (.bipush 6, 2) := by decide +kernel
set_option maxRecDepth 20000 in
theorem dX2_readToken_140 : decode cX2_readToken 140 = .ok (.goto 4, 3) := by decide +kernel
set_option maxRecDepth 20000 in
theorem dX2_readToken_143 : decode cX2_readToken 143 = .ok (.iconst 1, 1) := by decide +kernel
set_option maxRecDepth 20000 in
theorem dX2_readToken_144 : decode cX2_readToken 144 = .ok (.putfield 48, 3) := by decide +kernel
set_option maxRecDepth 20000 in
theorem dX2_readToken_147 : decode cX2_readToken 147 = .ok (.aload_n 0, 1) := by decide +kernel
set_option maxRecDepth 20000 in
theorem dX2_readToken_148 : decode cX2_readToken 148 = .ok (.dup, 1) := by decide +kernel
set_option maxRecDepth 20000 in
theorem dX2_readToken_149 : decode cX2_readToken 149 = .ok (.getfield 42, 3) := by decide +kernel
set_option maxRecDepth 20000 in
theorem dX2_readToken_152 : decode cX2_readToken 152 = .ok (.iconst 1, 1) := by decide +kernel
set_option maxRecDepth 20000 in
theorem dX2_readToken_153 : decode cX2_readToken 153 = .ok (.iadd, 1) := by decide +kernel
set_option maxRecDepth 20000 in
theorem dX2_readToken_154 : decode cX2_readToken 154 = .ok (.putfield 42, 3) := by decide +kernel
set_option maxRecDepth 20000 in
theorem dX2_readToken_157 : decode cX2_readToken 157 = .ok (.return_, 1) := by decide +kernel
set_option maxRecDepth 20000 in
theorem dX2_readDigits_0 : decode cX2_readDigits 0 = .ok (.aload_n 0, 1) := by decide +kernel
set_option maxRecDepth 20000 in
theorem dX2_readDigits_1 : decode cX2_readDigits 1 = .ok (.iconst 0, 1) := by decide +kernel
set_option maxRecDepth 20000 in
theorem dX2_readDigits_2 : decode cX2_readDigits 2 = .ok (.putfield 51, 3) := by decide +kernel
set_option maxRecDepth 20000 in
theorem dX2_readDigits_5 : decode cX2_readDigits 5 = .ok (.aload_n 0, 1) := by decide +kernel
set_option maxRecDepth 20000 in
theorem dX2_readDigits_6 : decode cX2_readDigits 6 = .ok (.getfield 42, 3) := by decide +kernel
set_option maxRecDepth 20000 in
theorem dX2_readDigits_9 : decode cX2_readDigits 9 = .ok (.aload_n 0, 1) := by decide +kernel
set_option maxRecDepth 20000 in
theorem dX2_readDigits_10 : decode cX2_readDigits 10 = .ok (.getfield 14, 3) := by decide +kernel
set_option maxRecDepth 20000 in
theorem dX2_readDigits_13 : decode cX2_readDigits 13 = .ok (.invokevirtual 73, 3) := by decide +kernel
set_option maxRecDepth 20000 in
theorem dX2_readDigits_16 : decode cX2_readDigits 16 = .ok (.if_icmp .ge 59, 3) := by decide +kernel
set_option maxRecDepth 20000 in
theorem dX2_readDigits_19 : decode cX2_readDigits 19 = .ok (.aload_n 0, 1) := by decide +kernel
set_option maxRecDepth 20000 in
theorem dX2_readDigits_20 : decode cX2_readDigits 20 = .ok (.getfield 14, 3) := by decide +kernel
set_option maxRecDepth 20000 in
theorem dX2_readDigits_23 : decode cX2_readDigits 23 = .ok (.aload_n 0, 1) := by decide +kernel
set_option maxRecDepth 20000 in
theorem dX2_readDigits_24 : decode cX2_readDigits 24 = .ok (.getfield 42, 3) := by decide +kernel
set_option maxRecDepth 20000 in
theorem dX2_readDigits_27 : decode cX2_readDigits 27 = .ok (.invokevirtual 94, 3) := by decide +kernel
set_option maxRecDepth 20000 in
theorem dX2_readDigits_30 : decode cX2_readDigits 30 = .ok (.invokestatic 101, 3) := by decide +kernel
set_option maxRecDepth 20000 in
theorem dX2_readDigits_33 : decode cX2_readDigits 33 = .ok (.ifCond .eq 42, 3) := by decide +kernel
set_option maxRecDepth 20000 in
theorem dX2_readDigits_36 : decode cX2_readDigits 36 = .ok (.aload_n 0, 1) := by decide +kernel
set_option maxRecDepth 20000 in
theorem dX2_readDigits_37 : decode cX2_readDigits 37 = .ok (.aload_n 0, 1) := by decide +kernel
set_option maxRecDepth 20000 in
theorem dX2_readDigits_38 : decode cX2_readDigits 38 = .ok (.getfield 51, 3) := by decide +kernel
set_option maxRecDepth 20000 in
theorem dX2_readDigits_41 : decode cX2_readDigits 41 = .ok (.bipush 10, 2) := by decide +kernel
set_option maxRecDepth 20000 in
theorem dX2_readDigits_43 : decode cX2_readDigits 43 = .ok (.imul, 1) := by decide +kernel
set_option maxRecDepth 20000 in
theorem dX2_readDigits_44 : decode cX2_readDigits 44 = .ok (.aload_n 0, 1) := by decide +kernel
set_option maxRecDepth 20000 in
theorem dX2_readDigits_45 : decode cX2_readDigits 45 = .ok (.getfield 14, 3) := by decide +kernel
set_option maxRecDepth 20000 in
theorem dX2_readDigits_48 : decode cX2_readDigits 48 = .ok (.aload_n 0, 1) := by decide +kernel
set_option maxRecDepth 20000 in
theorem dX2_readDigits_49 : decode cX2_readDigits 49 = .ok (.getfield 42, 3) := by decide +kernel
set_option maxRecDepth 20000 in
theorem dX2_readDigits_52 : decode cX2_readDigits 52 = .ok (.invokevirtual 94, 3) := by decide +kernel
set_option maxRecDepth 20000 in
theorem dX2_readDigits_55 : decode cX2_readDigits 55 = .ok (.iadd, 1) := by decide +kernel
set_option maxRecDepth 20000 in
theorem dX2_readDigits_56 : decode cX2_readDigits 56 = .ok (.bipush 48, 2) := by decide +kernel
set_option maxRecDepth 20000 in
theorem dX2_readDigits_58 : decode cX2_readDigits 58 = .ok (.isub, 1) := by decide +kernel
set_option maxRecDepth 20000 in
theorem dX2_readDigits_59 : decode cX2_readDigits 59 = .ok (.putfield 51, 3) := by decide +kernel
set_option maxRecDepth 20000 in
theorem dX2_readDigits_62 : decode cX2_readDigits 62 = .ok (.aload_n 0, 1) := by decide +kernel
set_option maxRecDepth 20000 in
theorem dX2_readDigits_63 : decode cX2_readDigits 63 = .ok (.dup, 1) := by decide +kernel
set_option maxRecDepth 20000 in
theorem dX2_readDigits_64 : decode cX2_readDigits 64 = .ok (.getfield 42, 3) := by decide +kernel
set_option maxRecDepth 20000 in
theorem dX2_readDigits_67 : decode cX2_readDigits 67 = .ok (.iconst 1, 1) := by decide +kernel
set_option maxRecDepth 20000 in
theorem dX2_readDigits_68 : decode cX2_readDigits 68 = .ok (.iadd, 1) := by decide +kernel
set_option maxRecDepth 20000 in
theorem dX2_readDigits_69 : decode cX2_readDigits 69 = .ok (.putfield 42, 3) := by decide +kernel
set_option maxRecDepth 20000 in
theorem dX2_readDigits_72 : decode cX2_readDigits 72 = .ok (.goto (-67), 3) := by decide +kernel
set_option maxRecDepth 20000 in
theorem dX2_readDigits_75 : decode cX2_readDigits 75 = .ok (.aload_n 0, 1) := by decide +kernel
set_option maxRecDepth 20000 in
theorem dX2_readDigits_76 : decode cX2_readDigits 76 = .ok (.getfield 42, 3) := by decide +kernel
set_option maxRecDepth 20000 in
theorem dX2_readDigits_79 : decode cX2_readDigits 79 = .ok (.aload_n 0, 1) := by decide +kernel
set_option maxRecDepth 20000 in
theorem dX2_readDigits_80 : decode cX2_readDigits 80 = .ok (.getfield 45, 3) := by decide +kernel
set_option maxRecDepth 20000 in
theorem dX2_readDigits_83 : decode cX2_readDigits 83 = .ok (.isub, 1) := by decide +kernel
set_option maxRecDepth 20000 in
theorem dX2_readDigits_84 : decode cX2_readDigits 84 = .ok (.istore_n 1, 1) := by decide +kernel
set_option maxRecDepth 20000 in
theorem dX2_readDigits_85 : decode cX2_readDigits 85 = .ok (.iload_n 1, 1) := by decide +kernel
set_option maxRecDepth 20000 in
theorem dX2_readDigits_86 : decode cX2_readDigits 86 = .ok (.iconst 1, 1) := by decide +kernel
set_option maxRecDepth 20000 in
theorem dX2_readDigits_87 : decode cX2_readDigits 87 = .ok (.if_icmp .eq 24, 3) := by decide +kernel
set_option maxRecDepth 20000 in
theorem dX2_readDigits_90 : decode cX2_readDigits 90 = .ok (.iload_n 1, 1) := by decide +kernel
set_option maxRecDepth 20000 in
theorem dX2_readDigits_91 : decode cX2_readDigits 91 = .ok (.iconst 2, 1) := by decide +kernel
set_option maxRecDepth 20000 in
theorem dX2_readDigits_92 : decode cX2_readDigits 92 = .ok (.if_icmp .ne 23, 3) := by decide +kernel
set_option maxRecDepth 20000 in
theorem dX2_readDigits_95 : decode cX2_readDigits 95 = .ok (.aload_n 0, 1) := by decide +kernel
set_option maxRecDepth 20000 in
theorem dX2_readDigits_96 : decode cX2_readDigits 96 = .ok (.getfield 14, 3) := by decide +kernel
set_option maxRecDepth 20000 in
theorem dX2_readDigits_99 : decode cX2_readDigits 99 = .ok (.aload_n 0, 1) := by decide +kernel
set_option maxRecDepth 20000 in
theorem dX2_readDigits_100 : decode cX2_readDigits 100 = .ok (.getfield 45, 3) := by decide +kernel
set_option maxRecDepth 20000 in
theorem dX2_readDigits_103 : decode cX2_readDigits 103 = .ok (.invokevirtual 94, 3) := by decide +kernel
set_option maxRecDepth 20000 in
theorem dX2_readDigits_106 : decode cX2_readDigits 106 = .ok (.bipush 48, 2) := by decide +kernel
set_option maxRecDepth 20000 in
theorem dX2_readDigits_108 : decode cX2_readDigits 108 = .ok (.if_icmp .eq 7, 3) := by decide +kernel
set_option maxRecDepth 20000 in
theorem dX2_readDigits_111 : decode cX2_readDigits 111 = .ok (.iconst 1, 1) := by decide +kernel
set_option maxRecDepth 20000 in
theorem dX2_readDigits_112 : decode cX2_readDigits 112 = .ok (.goto 4, 3) := by decide +kernel
set_option maxRecDepth 20000 in
theorem dX2_readDigits_115 : decode cX2_readDigits 115 = .ok (.iconst 0, 1) := by decide +kernel
set_option maxRecDepth 20000 in
theorem dX2_readDigits_116 : decode cX2_readDigits 116 = .ok (.istore_n 2, 1) := by decide +kernel
set_option maxRecDepth 20000 in
theorem dX2_readDigits_117 : decode cX2_readDigits 117 = .ok (.aload_n 0, 1) := by decide +kernel
set_option maxRecDepth 20000 in
theorem dX2_readDigits_118 : decode cX2_readDigits 118 = .ok (.iload_n 2, 1) := by decide +kernel
set_option maxRecDepth 20000 in
theorem dX2_readDigits_119 : decode cX2_readDigits 119 = .ok (.ifCond .eq 7, 3) := by decide +kernel
set_option maxRecDepth 20000 in
theorem dX2_readDigits_122 : decode cX2_readDigits 122 = .ok (.iconst 5, 1) := by decide +kernel
set_option maxRecDepth 20000 in
theorem dX2_readDigits_123 : decode cX2_readDigits 123 = .ok (.goto 4, 3) := by decide +kernel
set_option maxRecDepth 20000 in
theorem dX2_readDigits_126 : decode cX2_readDigits 126 = .ok (.iconst 1, 1) := by decide +kernel
set_option maxRecDepth 20000 in
theorem dX2_readDigits_127 : decode cX2_readDigits 127 = .ok (.putfield 48, 3) := by decide +kernel
set_option maxRecDepth 20000 in
theorem dX2_readDigits_130 : decode cX2_readDigits 130 = .ok (.return_, 1) := by decide +kernel
set_option maxRecDepth 20000 in
theorem dX2_readLetters_0 : decode cX2_readLetters 0 = .ok (.aload_n 0, 1) := by decide +kernel
set_option maxRecDepth 20000 in
theorem dX2_readLetters_1 : decode cX2_readLetters 1 = .ok (.getfield 42, 3) := by decide +kernel
set_option maxRecDepth 20000 in
theorem dX2_readLetters_4 : decode cX2_readLetters 4 = .ok (.aload_n 0, 1) := by decide +kernel
set_option maxRecDepth 20000 in
theorem dX2_readLetters_5 : decode cX2_readLetters 5 = .ok (.getfield 14, 3) := by decide +kernel
set_option maxRecDepth 20000 in
theorem dX2_readLetters_8 : decode cX2_readLetters 8 = .ok (.invokevirtual 73, 3) := by decide +kernel
set_option maxRecDepth 20000 in
theorem dX2_readLetters_11 : decode cX2_readLetters 11 = .ok (.if_icmp .ge 33, 3) := by decide +kernel
set_option maxRecDepth 20000 in
theorem dX2_readLetters_14 : decode cX2_readLetters 14 = .ok (.aload_n 0, 1) := by decide +kernel
set_option maxRecDepth 20000 in
theorem dX2_readLetters_15 : decode cX2_readLetters 15 = .ok (.getfield 14, 3) := by decide +kernel
set_option maxRecDepth 20000 in
theorem dX2_readLetters_18 : decode cX2_readLetters 18 = .ok (.aload_n 0, 1) := by decide +kernel
set_option maxRecDepth 20000 in
theorem dX2_readLetters_19 : decode cX2_readLetters 19 = .ok (.getfield 42, 3) := by decide +kernel
set_option maxRecDepth 20000 in
theorem dX2_readLetters_22 : decode cX2_readLetters 22 = .ok (.invokevirtual 94, 3) := by decide +kernel
set_option maxRecDepth 20000 in
theorem dX2_readLetters_25 : decode cX2_readLetters 25 = .ok (.invokestatic 108, 3) := by decide +kernel
set_option maxRecDepth 20000 in
theorem dX2_readLetters_28 : decode cX2_readLetters 28 = .ok (.ifCond .eq 16, 3) := by decide +kernel
set_option maxRecDepth 20000 in
theorem dX2_readLetters_31 : decode cX2_readLetters 31 = .ok (.aload_n 0, 1) := by decide +kernel
set_option maxRecDepth 20000 in
theorem dX2_readLetters_32 : decode cX2_readLetters 32 = .ok (.dup, 1) := by decide +kernel
set_option maxRecDepth 20000 in
theorem dX2_readLetters_33 : decode cX2_readLetters 33 = .ok (.getfield 42, 3) := by decide +kernel
set_option maxRecDepth 20000 in
theorem dX2_readLetters_36 : decode cX2_readLetters 36 = .ok (.iconst 1, 1) := by decide +kernel
set_option maxRecDepth 20000 in
theorem dX2_readLetters_37 : decode cX2_readLetters 37 = .ok (.iadd, 1) := by decide +kernel
set_option maxRecDepth 20000 in
theorem dX2_readLetters_38 : decode cX2_readLetters 38 = .ok (.putfield 42, 3) := by decide +kernel
set_option maxRecDepth 20000 in
theorem dX2_readLetters_41 : decode cX2_readLetters 41 = .ok (.goto (-41), 3) := by decide +kernel
set_option maxRecDepth 20000 in
theorem dX2_readLetters_44 : decode cX2_readLetters 44 = .ok (.aload_n 0, 1) := by decide +kernel
set_option maxRecDepth 20000 in
theorem dX2_readLetters_45 : decode cX2_readLetters 45 = .ok (.ldc 114, 2) := by decide +kernel
set_option maxRecDepth 20000 in
theorem dX2_readLetters_47 : decode cX2_readLetters 47 = .ok (.invokevirtual 116, 3) := by decide +kernel
set_option maxRecDepth 20000 in
theorem dX2_readLetters_50 : decode cX2_readLetters 50 = .ok (.ifCond .eq 11, 3) := by decide +kernel
set_option maxRecDepth 20000 in
theorem dX2_readLetters_53 : decode cX2_readLetters 53 = .ok (.aload_n 0, 1) := by decide +kernel
set_option maxRecDepth 20000 in
theorem dX2_readLetters_54 : decode cX2_readLetters 54 = .ok (.iconst 2, 1) := by decide +kernel
set_option maxRecDepth 20000 in
theorem dX2_readLetters_55 : decode cX2_readLetters 55 = .ok (.putfield 48, 3) := by decide +kernel
set_option maxRecDepth 20000 in
theorem dX2_readLetters_58 : decode cX2_readLetters 58 = .ok (.goto 38, 3) := by decide +kernel
set_option maxRecDepth 20000 in
theorem dX2_readLetters_61 : decode cX2_readLetters 61 = .ok (.aload_n 0, 1) := by decide +kernel
set_option maxRecDepth 20000 in
theorem dX2_readLetters_62 : decode cX2_readLetters 62 = .ok (.ldc 120, 2) := by decide +kernel
set_option maxRecDepth 20000 in
theorem dX2_readLetters_64 : decode cX2_readLetters 64 = .ok (.invokevirtual 116, 3) := by decide +kernel
set_option maxRecDepth 20000 in
theorem dX2_readLetters_67 : decode cX2_readLetters 67 = .ok (.ifCond .eq 11, 3) := by decide +kernel
set_option maxRecDepth 20000 in
theorem dX2_readLetters_70 : decode cX2_readLetters 70 = .ok (.aload_n 0, 1) := by decide +kernel
set_option maxRecDepth 20000 in
theorem dX2_readLetters_71 : decode cX2_readLetters 71 = .ok (.iconst 3, 1) := by decide +kernel
set_option maxRecDepth 20000 in
theorem dX2_readLetters_72 : decode cX2_readLetters 72 = .ok (.putfield 48, 3) := by decide +kernel
set_option maxRecDepth 20000 in
theorem dX2_readLetters_75 : decode cX2_readLetters 75 = .ok (.goto 21, 3) := by decide +kernel
set_option maxRecDepth 20000 in
theorem dX2_readLetters_78 : decode cX2_readLetters 78 = .ok (.aload_n 0, 1) := by decide +kernel
set_option maxRecDepth 20000 in
theorem dX2_readLetters_79 : decode cX2_readLetters 79 = .ok (.aload_n 0, 1) := by decide +kernel
set_option maxRecDepth 20000 in
theorem dX2_readLetters_80 : decode cX2_readLetters 80 = .ok (.ldc 122, 2) := by decide +kernel
set_option maxRecDepth 20000 in
theorem dX2_readLetters_82 : decode cX2_readLetters 82 = .ok (.invokevirtual 116, 3) := by decide +kernel
set_option maxRecDepth 20000 in
theorem dX2_readLetters_85 : decode cX2_readLetters 85 = .ok (.ifCond .eq 7, 3) := by decide +kernel
set_option maxRecDepth 20000 in
theorem dX2_readLetters_88 : decode cX2_readLetters 88 = .ok (.iconst 4, 1) := by decide +kernel
set_option maxRecDepth 20000 in
theorem dX2_readLetters_89 : decode cX2_readLetters 89 = .ok (.goto 4, 3) := by decide +kernel
set_option maxRecDepth 20000 in
theorem dX2_readLetters_92 : decode cX2_readLetters 92 = .ok (.iconst 1, 1) := by decide +kernel
set_option maxRecDepth 20000 in
theorem dX2_readLetters_93 : decode cX2_readLetters 93 = .ok (.putfield 48, 3) := by decide +kernel
set_option maxRecDepth 20000 in
theorem dX2_readLetters_96 : decode cX2_readLetters 96 = .ok (.return_, 1) := by decide +kernel
set_option maxRecDepth 20000 in
theorem dX2_isWord_0 : decode cX2_isWord 0 = .ok (.aload_n 1, 1) := by decide +kernel
set_option maxRecDepth 20000 in
theorem dX2_isWord_1 : decode cX2_isWord 1 = .ok (.ifnull 19, 3) := by decide +kernel
set_option maxRecDepth 20000 in
theorem dX2_isWord_4 : decode cX2_isWord 4 = .ok (.aload_n 0, 1) := by decide +kernel
set_option maxRecDepth 20000 in
theorem dX2_isWord_5 : decode cX2_isWord 5 = .ok (.getfield 42, 3) := by decide +kernel
set_option maxRecDepth 20000 in
theorem dX2_isWord_8 : decode cX2_isWord 8 = .ok (.aload_n 0, 1) := by decide +kernel
set_option maxRecDepth 20000 in
theorem dX2_isWord_9 : decode cX2_isWord 9 = .ok (.getfield 45, 3) := by decide +kernel
set_option maxRecDepth 20000 in
theorem dX2_isWord_12 : decode cX2_isWord 12 = .ok (.isub, 1) := by decide +kernel
set_option maxRecDepth 20000 in
theorem dX2_isWord_13 : decode cX2_isWord 13 = .ok (.aload_n 1, 1) := by decide +kernel
set_option maxRecDepth 20000 in
theorem dX2_isWord_14 : decode cX2_isWord 14 = .ok (.invokevirtual 124, 3) := by decide +kernel
set_option maxRecDepth 20000 in
theorem dX2_isWord_17 : decode cX2_isWord 17 = .ok (.if_icmp .eq 5, 3) := by decide +kernel
set_option maxRecDepth 20000 in
theorem dX2_isWord_20 : decode cX2_isWord 20 = .ok (.iconst 0, 1) := by decide +kernel
set_option maxRecDepth 20000 in
theorem dX2_isWord_21 : decode cX2_isWord 21 = .ok (.ireturn, 1) := by decide +kernel
set_option maxRecDepth 20000 in
theorem dX2_isWord_22 : decode cX2_isWord 22 = .ok (.iconst 0, 1) := by decide +kernel
set_option maxRecDepth 20000 in
theorem dX2_isWord_23 : decode cX2_isWord 23 = .ok (.istore_n 2, 1) := by decide +kernel
set_option maxRecDepth 20000 in
theorem dX2_isWord_24 : decode cX2_isWord 24 = .ok (.iload_n 2, 1) := by decide +kernel
set_option maxRecDepth 20000 in
theorem dX2_isWord_25 : decode cX2_isWord 25 = .ok (.aload_n 1, 1) := by decide +kernel
set_option maxRecDepth 20000 in
theorem dX2_isWord_26 : decode cX2_isWord 26 = .ok (.invokevirtual 124, 3) := by decide +kernel
set_option maxRecDepth 20000 in
theorem dX2_isWord_29 : decode cX2_isWord 29 = .ok (.if_icmp .ge 32, 3) := by decide +kernel
set_option maxRecDepth 20000 in
theorem dX2_isWord_32 : decode cX2_isWord 32 = .ok (.aload_n 0, 1) := by decide +kernel
set_option maxRecDepth 20000 in
theorem dX2_isWord_33 : decode cX2_isWord 33 = .ok (.getfield 14, 3) := by decide +kernel
set_option maxRecDepth 20000 in
theorem dX2_isWord_36 : decode cX2_isWord 36 = .ok (.aload_n 0, 1) := by decide +kernel
set_option maxRecDepth 20000 in
theorem dX2_isWord_37 : decode cX2_isWord 37 = .ok (.getfield 45, 3) := by decide +kernel
set_option maxRecDepth 20000 in
theorem dX2_isWord_40 : decode cX2_isWord 40 = .ok (.iload_n 2, 1) := by decide +kernel
set_option maxRecDepth 20000 in
theorem dX2_isWord_41 : decode cX2_isWord 41 = .ok (.iadd, 1) := by decide +kernel
set_option maxRecDepth 20000 in
theorem dX2_isWord_42 : decode cX2_isWord 42 = .ok (.invokevirtual 94, 3) := by decide +kernel
set_option maxRecDepth 20000 in
theorem dX2_isWord_45 : decode cX2_isWord 45 = .ok (.aload_n 1, 1) := by decide +kernel
set_option maxRecDepth 20000 in
theorem dX2_isWord_46 : decode cX2_isWord 46 = .ok (.iload_n 2, 1) := by decide +kernel
set_option maxRecDepth 20000 in
theorem dX2_isWord_47 : decode cX2_isWord 47 = .ok (.invokevirtual 129, 3) := by decide +kernel
set_option maxRecDepth 20000 in
theorem dX2_isWord_50 : decode cX2_isWord 50 = .ok (.if_icmp .eq 5, 3) := by decide +kernel
set_option maxRecDepth 20000 in
theorem dX2_isWord_53 : decode cX2_isWord 53 = .ok (.iconst 0, 1) := by decide +kernel
set_option maxRecDepth 20000 in
theorem dX2_isWord_54 : decode cX2_isWord 54 = .ok (.ireturn, 1) := by decide +kernel
set_option maxRecDepth 20000 in
theorem dX2_isWord_55 : decode cX2_isWord 55 = .ok (.iinc 2 1, 3) := by decide +kernel
set_option maxRecDepth 20000 in
theorem dX2_isWord_58 : decode cX2_isWord 58 = .ok (.goto (-34), 3) := by decide +kernel
set_option maxRecDepth 20000 in
theorem dX2_isWord_61 : decode cX2_isWord 61 = .ok (.iconst 1, 1) := by decide +kernel
set_option maxRecDepth 20000 in
theorem dX2_isWord_62 : decode cX2_isWord 62 = .ok (.ireturn, 1) := by decide +kernel
set_option maxRecDepth 20000 in
theorem dX2_isDigit_0 : decode cX2_isDigit 0 = .ok (.iload_n 0, 1) := by decide +kernel
set_option maxRecDepth 20000 in
theorem dX2_isDigit_1 : decode cX2_isDigit 1 = .ok (.bipush 48, 2) := by decide +kernel
set_option maxRecDepth 20000 in
theorem dX2_isDigit_3 : decode cX2_isDigit 3 = .ok (.if_icmp .lt 13, 3) := by decide +kernel
set_option maxRecDepth 20000 in
theorem dX2_isDigit_6 : decode cX2_isDigit 6 = .ok (.iload_n 0, 1) := by decide +kernel
set_option maxRecDepth 20000 in
theorem dX2_isDigit_7 : decode cX2_isDigit 7 = .ok (.bipush 57, 2) := by decide +kernel
set_option maxRecDepth 20000 in
theorem dX2_isDigit_9 : decode cX2_isDigit 9 = .ok (.if_icmp .gt 7, 3) := by decide +kernel
set_option maxRecDepth 20000 in
theorem dX2_isDigit_12 : decode cX2_isDigit 12 = .ok (.iconst 1, 1) := by decide +kernel
set_option maxRecDepth 20000 in
theorem dX2_isDigit_13 : decode cX2_isDigit 13 = .ok (.goto 4, 3) := by decide +kernel
set_option maxRecDepth 20000 in
theorem dX2_isDigit_16 : decode cX2_isDigit 16 = .ok (.iconst 0, 1) := by decide +kernel
set_option maxRecDepth 20000 in
theorem dX2_isDigit_17 : decode cX2_isDigit 17 = .ok (.ireturn, 1) := by decide +kernel
set_option maxRecDepth 20000 in
theorem dX2_isLetter_0 : decode cX2_isLetter 0 = .ok (.iload_n 0, 1) := by decide +kernel
set_option maxRecDepth 20000 in
theorem dX2_isLetter_1 : decode cX2_isLetter 1 = .ok (.bipush 97, 2) := by decide +kernel
set_option maxRecDepth 20000 in
theorem dX2_isLetter_3 : decode cX2_isLetter 3 = .ok (.if_icmp .lt 13, 3) := by decide +kernel
set_option maxRecDepth 20000 in
theorem dX2_isLetter_6 : decode cX2_isLetter 6 = .ok (.iload_n 0, 1) := by decide +kernel
set_option maxRecDepth 20000 in
theorem dX2_isLetter_7 : decode cX2_isLetter 7 = .ok (.bipush 122, 2) := by decide +kernel
set_option maxRecDepth 20000 in
theorem dX2_isLetter_9 : decode cX2_isLetter 9 = .ok (.if_icmp .gt 7, 3) := by decide +kernel
set_option maxRecDepth 20000 in
theorem dX2_isLetter_12 : decode cX2_isLetter 12 = .ok (.iconst 1, 1) := by decide +kernel
set_option maxRecDepth 20000 in
theorem dX2_isLetter_13 : decode cX2_isLetter 13 = .ok (.goto 4, 3) := by decide +kernel
set_option maxRecDepth 20000 in
theorem dX2_isLetter_16 : decode cX2_isLetter 16 = .ok (.iconst 0, 1) := by decide +kernel
set_option maxRecDepth 20000 in
theorem dX2_isLetter_17 : decode cX2_isLetter 17 = .ok (.ireturn, 1) := by decide +kernel
set_option maxRecDepth 20000 in
theorem dX3_init_0 : decode cX3_init 0 = .ok (.aload_n 0, 1) := by decide +kernel
set_option maxRecDepth 20000 in
theorem dX3_init_1 : decode cX3_init 1 = .ok (.invokespecial 1, 3) := by decide +kernel
set_option maxRecDepth 20000 in
theorem dX3_init_4 : decode cX3_init 4 = .ok (.aload_n 0, 1) := by decide +kernel
set_option maxRecDepth 20000 in
theorem dX3_init_5 : decode cX3_init 5 = .ok (.iconst 0, 1) := by decide +kernel
set_option maxRecDepth 20000 in
theorem dX3_init_6 : decode cX3_init 6 = .ok (.putfield 7, 3) := by decide +kernel
set_option maxRecDepth 20000 in
theorem dX3_init_9 : decode cX3_init 9 = .ok (.aload_n 0, 1) := by decide +kernel
set_option maxRecDepth 20000 in
theorem dX3_init_10 : decode cX3_init 10 = .ok (.iload_n 1, 1) := by decide +kernel
set_option maxRecDepth 20000 in
theorem dX3_init_11 : decode cX3_init 11 = .ok (.iconst 0, 1) := by decide +kernel
set_option maxRecDepth 20000 in
theorem dX3_init_12 : decode cX3_init 12 = .ok (.invokestatic 13, 3) := by decide +kernel
set_option maxRecDepth 20000 in
theorem dX3_init_15 : decode cX3_init 15 = .ok (.newarray .int, 2) := by decide +kernel
set_option maxRecDepth 20000 in
theorem dX3_init_17 : decode cX3_init 17 = .ok (.putfield 19, 3) := by decide +kernel
set_option maxRecDepth 20000 in
theorem dX3_init_20 : decode cX3_init 20 = .ok (.return_, 1) := by decide +kernel
set_option maxRecDepth 20000 in
theorem dX3_size_0 : decode cX3_size 0 = .ok (.aload_n 0, 1) := by decide +kernel
set_option maxRecDepth 20000 in
theorem dX3_size_1 : decode cX3_size 1 = .ok (.getfield 7, 3) := by decide +kernel
set_option maxRecDepth 20000 in
theorem dX3_size_4 : decode cX3_size 4 = .ok (.ireturn, 1) := by decide +kernel
set_option maxRecDepth 20000 in
theorem dX3_has_0 : decode cX3_has 0 = .ok (.iload_n 1, 1) := by decide +kernel
set_option maxRecDepth 20000 in
theorem dX3_has_1 : decode cX3_has 1 = .ok (.ifCond .lt 15, 3) := by decide +kernel
set_option maxRecDepth 20000 in
theorem dX3_has_4 : decode cX3_has 4 = .ok (.iload_n 1, 1) := by decide +kernel
set_option maxRecDepth 20000 in
theorem dX3_has_5 : decode cX3_has 5 = .ok (.aload_n 0, 1) := by decide +kernel
set_option maxRecDepth 20000 in
theorem dX3_has_6 : decode cX3_has 6 = .ok (.getfield 7, 3) := by decide +kernel
set_option maxRecDepth 20000 in
theorem dX3_has_9 : decode cX3_has 9 = .ok (.if_icmp .ge 7, 3) := by decide +kernel
set_option maxRecDepth 20000 in
theorem dX3_has_12 : decode cX3_has 12 = .ok (.iconst 1, 1) := by decide +kernel
set_option maxRecDepth 20000 in
theorem dX3_has_13 : decode cX3_has 13 = .ok (.goto 4, 3) := by decide +kernel
set_option maxRecDepth 20000 in
theorem dX3_has_16 : decode cX3_has 16 = .ok (.iconst 0, 1) := by decide +kernel
set_option maxRecDepth 20000 in
theorem dX3_has_17 : decode cX3_has 17 = .ok (.ireturn, 1) := by decide +kernel
set_option maxRecDepth 20000 in
theorem dX3_at_0 : decode cX3_at 0 = .ok (.iload_n 1, 1) := by decide +kernel
set_option maxRecDepth 20000 in
theorem dX3_at_1 : decode cX3_at 1 = .ok (.ifCond .lt 29, 3) := by decide +kernel
set_option maxRecDepth 20000 in
theorem dX3_at_4 : decode cX3_at 4 = .ok (.iload_n 1, 1) := by decide +kernel
set_option maxRecDepth 20000 in
theorem dX3_at_5 : decode cX3_at 5 = .ok (.aload_n 0, 1) := by decide +kernel
set_option maxRecDepth 20000 in
theorem dX3_at_6 : decode cX3_at 6 = .ok (.getfield 7, 3) := by decide +kernel
set_option maxRecDepth 20000 in
theorem dX3_at_9 : decode cX3_at 9 = .ok (.if_icmp .ge 21, 3) := by decide +kernel
set_option maxRecDepth 20000 in
theorem dX3_at_12 : decode cX3_at 12 = .ok (.iload_n 1, 1) := by decide +kernel
set_option maxRecDepth 20000 in
theorem dX3_at_13 : decode cX3_at 13 = .ok (.aload_n 0, 1) := by decide +kernel
set_option maxRecDepth 20000 in
theorem dX3_at_14 : decode cX3_at 14 = .ok (.getfield 19, 3) := by decide +kernel
set_option maxRecDepth 20000 in
theorem dX3_at_17 : decode cX3_at 17 = .ok (.arraylength, 1) := by decide +kernel
set_option maxRecDepth 20000 in
theorem dX3_at_18 : decode cX3_at 18 = .ok (.if_icmp .ge 12, 3) := by decide +kernel
set_option maxRecDepth 20000 in
theorem dX3_at_21 : decode cX3_at 21 = .ok (.aload_n 0, 1) := by decide +kernel
set_option maxRecDepth 20000 in
theorem dX3_at_22 : decode cX3_at 22 = .ok (.getfield 19, 3) := by decide +kernel
set_option maxRecDepth 20000 in
theorem dX3_at_25 : decode cX3_at 25 = .ok (.iload_n 1, 1) := by decide +kernel
set_option maxRecDepth 20000 in
theorem dX3_at_26 : decode cX3_at 26 = .ok (.iaload, 1) := by decide +kernel
set_option maxRecDepth 20000 in
theorem dX3_at_27 : decode cX3_at 27 = .ok (.goto 4, 3) := by decide +kernel
set_option maxRecDepth 20000 in
theorem dX3_at_30 : decode cX3_at 30 = .ok (.iconst 0, 1) := by decide +kernel
set_option maxRecDepth 20000 in
theorem dX3_at_31 : decode cX3_at 31 = .ok (.ireturn, 1) := by decide +kernel
set_option maxRecDepth 20000 in
theorem dX3_put_0 : decode cX3_put 0 = .ok (.iload_n 1, 1) := by decide +kernel
set_option maxRecDepth 20000 in
theorem dX3_put_1 : decode cX3_put 1 = .ok (.ifCond .lt 27, 3) := by decide +kernel
set_option maxRecDepth 20000 in
theorem dX3_put_4 : decode cX3_put 4 = .ok (.iload_n 1, 1) := by decide +kernel
set_option maxRecDepth 20000 in
theorem dX3_put_5 : decode cX3_put 5 = .ok (.aload_n 0, 1) := by decide +kernel
set_option maxRecDepth 20000 in
theorem dX3_put_6 : decode cX3_put 6 = .ok (.getfield 7, 3) := by decide +kernel
set_option maxRecDepth 20000 in
theorem dX3_put_9 : decode cX3_put 9 = .ok (.if_icmp .ge 19, 3) := by decide +kernel
set_option maxRecDepth 20000 in
theorem dX3_put_12 : decode cX3_put 12 = .ok (.iload_n 1, 1) := by decide +kernel
set_option maxRecDepth 20000 in
theorem dX3_put_13 : decode cX3_put 13 = .ok (.aload_n 0, 1) := by decide +kernel
set_option maxRecDepth 20000 in
theorem dX3_put_14 : decode cX3_put 14 = .ok (.getfield 19, 3) := by decide +kernel
set_option maxRecDepth 20000 in
theorem dX3_put_17 : decode cX3_put 17 = .ok (.arraylength, 1) := by decide +kernel
set_option maxRecDepth 20000 in
theorem dX3_put_18 : decode cX3_put 18 = .ok (.if_icmp .ge 10, 3) := by decide +kernel
set_option maxRecDepth 20000 in
theorem dX3_put_21 : decode cX3_put 21 = .ok (.aload_n 0, 1) := by decide +kernel
set_option maxRecDepth 20000 in
theorem dX3_put_22 : decode cX3_put 22 = .ok (.getfield 19, 3) := by decide +kernel
set_option maxRecDepth 20000 in
theorem dX3_put_25 : decode cX3_put 25 = .ok (.iload_n 1, 1) := by decide +kernel
set_option maxRecDepth 20000 in
theorem dX3_put_26 : decode cX3_put 26 = .ok (.iload_n 2, 1) := by decide +kernel
set_option maxRecDepth 20000 in
theorem dX3_put_27 : decode cX3_put 27 = .ok (.iastore, 1) := by decide +kernel
set_option maxRecDepth 20000 in
theorem dX3_put_28 : decode cX3_put 28 = .ok (.return_, 1) := by decide +kernel
set_option maxRecDepth 20000 in
theorem dX3_add_0 : decode cX3_add 0 = .ok (.aload_n 0, 1) := by decide +kernel
set_option maxRecDepth 20000 in
theorem dX3_add_1 : decode cX3_add 1 = .ok (.getfield 7, 3) := by decide +kernel
set_option maxRecDepth 20000 in
theorem dX3_add_4 : decode cX3_add 4 = .ok (.ifCond .lt 35, 3) := by decide +kernel
set_option maxRecDepth 20000 in
theorem dX3_add_7 : decode cX3_add 7 = .ok (.aload_n 0, 1) := by decide +kernel
set_option maxRecDepth 20000 in
theorem dX3_add_8 : decode cX3_add 8 = .ok (.getfield 7, 3) := by decide +kernel
set_option maxRecDepth 20000 in
theorem dX3_add_11 : decode cX3_add 11 = .ok (.aload_n 0, 1) := by decide +kernel
set_option maxRecDepth 20000 in
theorem dX3_add_12 : decode cX3_add 12 = .ok (.getfield 19, 3) := by decide +kernel
set_option maxRecDepth 20000 in
theorem dX3_add_15 : decode cX3_add 15 = .ok (.arraylength, 1) := by decide +kernel
set_option maxRecDepth 20000 in
theorem dX3_add_16 : decode cX3_add 16 = .ok (.if_icmp .ge 23, 3) := by decide +kernel
set_option maxRecDepth 20000 in
theorem dX3_add_19 : decode cX3_add 19 = .ok (.aload_n 0, 1) := by decide +kernel
set_option maxRecDepth 20000 in
theorem dX3_add_20 : decode cX3_add 20 = .ok (.getfield 19, 3) := by decide +kernel
set_option maxRecDepth 20000 in
theorem dX3_add_23 : decode cX3_add 23 = .ok (.aload_n 0, 1) := by decide +kernel
set_option maxRecDepth 20000 in
theorem dX3_add_24 : decode cX3_add 24 = .ok (.getfield 7, 3) := by decide +kernel
set_option maxRecDepth 20000 in
theorem dX3_add_27 : decode cX3_add 27 = .ok (.iload_n 1, 1) := by decide +kernel
set_option maxRecDepth 20000 in
theorem dX3_add_28 : decode cX3_add 28 = .ok (.iastore, 1) := by decide +kernel
set_option maxRecDepth 20000 in
theorem dX3_add_29 : decode cX3_add 29 = .ok (.aload_n 0, 1) := by decide +kernel
set_option maxRecDepth 20000 in
theorem dX3_add_30 : decode cX3_add 30 = .ok (.dup, 1) := by decide +kernel
set_option maxRecDepth 20000 in
theorem dX3_add_31 : decode cX3_add 31 = .ok (.getfield 7, 3) := by decide +kernel
set_option maxRecDepth 20000 in
theorem dX3_add_34 : decode cX3_add 34 = .ok (.iconst 1, 1) := by decide +kernel
set_option maxRecDepth 20000 in
theorem dX3_add_35 : decode cX3_add 35 = .ok (.iadd, 1) := by decide +kernel
set_option maxRecDepth 20000 in
theorem dX3_add_36 : decode cX3_add 36 = .ok (.putfield 7, 3) := by decide +kernel
set_option maxRecDepth 20000 in
theorem dX3_add_39 : decode cX3_add 39 = .ok (.return_, 1) := by decide +kernel
set_option maxRecDepth 20000 in
theorem dX3_cutTo_0 : decode cX3_cutTo 0 = .ok (.iload_n 1, 1) := by decide +kernel
set_option maxRecDepth 20000 in
theorem dX3_cutTo_1 : decode cX3_cutTo 1 = .ok (.ifCond .lt 16, 3) := by decide +kernel
set_option maxRecDepth 20000 in
theorem dX3_cutTo_4 : decode cX3_cutTo 4 = .ok (.iload_n 1, 1) := by decide +kernel
set_option maxRecDepth 20000 in
theorem dX3_cutTo_5 : decode cX3_cutTo 5 = .ok (.aload_n 0, 1) := by decide +kernel
set_option maxRecDepth 20000 in
theorem dX3_cutTo_6 : decode cX3_cutTo 6 = .ok (.getfield 7, 3) := by decide +kernel
set_option maxRecDepth 20000 in
theorem dX3_cutTo_9 : decode cX3_cutTo 9 = .ok (.if_icmp .ge 8, 3) := by decide +kernel
set_option maxRecDepth 20000 in
theorem dX3_cutTo_12 : decode cX3_cutTo 12 = .ok (.aload_n 0, 1) := by decide +kernel
set_option maxRecDepth 20000 in
theorem dX3_cutTo_13 : decode cX3_cutTo 13 = .ok (.iload_n 1, 1) := by decide +kernel
set_option maxRecDepth 20000 in
theorem dX3_cutTo_14 : decode cX3_cutTo 14 = .ok (.putfield 7, 3) := by decide +kernel
set_option maxRecDepth 20000 in
theorem dX3_cutTo_17 : decode cX3_cutTo 17 = .ok (.return_, 1) := by decide +kernel
set_option maxRecDepth 20000 in
theorem dX3_copyFrom_0 : decode cX3_copyFrom 0 = .ok (.aload_n 0, 1) := by decide +kernel
set_option maxRecDepth 20000 in
theorem dX3_copyFrom_1 : decode cX3_copyFrom 1 = .ok (.iconst 0, 1) := by decide +kernel
set_option maxRecDepth 20000 in
theorem dX3_copyFrom_2 : decode cX3_copyFrom 2 = .ok (.invokevirtual 23, 3) := by decide +kernel
set_option maxRecDepth 20000 in
theorem dX3_copyFrom_5 : decode cX3_copyFrom 5 = .ok (.aload_n 1, 1) := by decide +kernel
set_option maxRecDepth 20000 in
theorem dX3_copyFrom_6 : decode cX3_copyFrom 6 = .ok (.ifnonnull 4, 3) := by decide +kernel
set_option maxRecDepth 20000 in
theorem dX3_copyFrom_9 : decode cX3_copyFrom 9 = .ok (.return_, 1) := by decide +kernel
set_option maxRecDepth 20000 in
theorem dX3_copyFrom_10 : decode cX3_copyFrom 10 = .ok (.iconst 0, 1) := by decide +kernel
set_option maxRecDepth 20000 in
theorem dX3_copyFrom_11 : decode cX3_copyFrom 11 = .ok (.istore_n 2, 1) := by decide +kernel
set_option maxRecDepth 20000 in
theorem dX3_copyFrom_12 : decode cX3_copyFrom 12 = .ok (.iload_n 2, 1) := by decide +kernel
set_option maxRecDepth 20000 in
theorem dX3_copyFrom_13 : decode cX3_copyFrom 13 = .ok (.aload_n 1, 1) := by decide +kernel
set_option maxRecDepth 20000 in
theorem dX3_copyFrom_14 : decode cX3_copyFrom 14 = .ok (.invokevirtual 27, 3) := by decide +kernel
set_option maxRecDepth 20000 in
theorem dX3_copyFrom_17 : decode cX3_copyFrom 17 = .ok (.if_icmp .ge 18, 3) := by decide +kernel
set_option maxRecDepth 20000 in
theorem dX3_copyFrom_20 : decode cX3_copyFrom 20 = .ok (.aload_n 0, 1) := by decide +kernel
set_option maxRecDepth 20000 in
theorem dX3_copyFrom_21 : decode cX3_copyFrom 21 = .ok (.aload_n 1, 1) := by decide +kernel
set_option maxRecDepth 20000 in
theorem dX3_copyFrom_22 : decode cX3_copyFrom 22 = .ok (.iload_n 2, 1) := by decide +kernel
set_option maxRecDepth 20000 in
theorem dX3_copyFrom_23 : decode cX3_copyFrom 23 = .ok (.invokevirtual 31, 3) := by decide +kernel
set_option maxRecDepth 20000 in
theorem dX3_copyFrom_26 : decode cX3_copyFrom 26 = .ok (.invokevirtual 35, 3) := by decide +kernel
set_option maxRecDepth 20000 in
theorem dX3_copyFrom_29 : decode cX3_copyFrom 29 = .ok (.iinc 2 1, 3) := by decide +kernel
set_option maxRecDepth 20000 in
theorem dX3_copyFrom_32 : decode cX3_copyFrom 32 = .ok (.goto (-20), 3) := by decide +kernel
set_option maxRecDepth 20000 in
theorem dX3_copyFrom_35 : decode cX3_copyFrom 35 = .ok (.return_, 1) := by decide +kernel
set_option maxRecDepth 20000 in
theorem dJ9_abs_0f7a4_0 : decode cJ9_abs_0f7a4 0 = .ok (.iload_n 0, 1) := by decide +kernel
set_option maxRecDepth 20000 in
theorem dJ9_abs_0f7a4_1 : decode cJ9_abs_0f7a4 1 = .ok (.ifCond .ge 8, 3) := by decide +kernel
set_option maxRecDepth 20000 in
theorem dJ9_abs_0f7a4_4 : decode cJ9_abs_0f7a4 4 = .ok (.iload_n 0, 1) := by decide +kernel
set_option maxRecDepth 20000 in
theorem dJ9_abs_0f7a4_5 : decode cJ9_abs_0f7a4 5 = .ok (.ineg, 1) := by decide +kernel
set_option maxRecDepth 20000 in
theorem dJ9_abs_0f7a4_6 : decode cJ9_abs_0f7a4 6 = .ok (.goto 4, 3) := by decide +kernel
set_option maxRecDepth 20000 in
theorem dJ9_abs_0f7a4_9 : decode cJ9_abs_0f7a4 9 = .ok (.iload_n 0, 1) := by decide +kernel
set_option maxRecDepth 20000 in
theorem dJ9_abs_0f7a4_10 : decode cJ9_abs_0f7a4 10 = .ok (.ireturn, 1) := by decide +kernel
set_option maxRecDepth 20000 in
theorem dJ9_max_7cf53_0 : decode cJ9_max_7cf53 0 = .ok (.iload_n 0, 1) := by decide +kernel
set_option maxRecDepth 20000 in
theorem dJ9_max_7cf53_1 : decode cJ9_max_7cf53 1 = .ok (.iload_n 1, 1) := by decide +kernel
set_option maxRecDepth 20000 in
theorem dJ9_max_7cf53_2 : decode cJ9_max_7cf53 2 = .ok (.if_icmp .lt 7, 3) := by decide +kernel
set_option maxRecDepth 20000 in
theorem dJ9_max_7cf53_5 : decode cJ9_max_7cf53 5 = .ok (.iload_n 0, 1) := by decide +kernel
set_option maxRecDepth 20000 in
theorem dJ9_max_7cf53_6 : decode cJ9_max_7cf53 6 = .ok (.goto 4, 3) := by decide +kernel
set_option maxRecDepth 20000 in
theorem dJ9_max_7cf53_9 : decode cJ9_max_7cf53 9 = .ok (.iload_n 1, 1) := by decide +kernel
set_option maxRecDepth 20000 in
theorem dJ9_max_7cf53_10 : decode cJ9_max_7cf53 10 = .ok (.ireturn, 1) := by decide +kernel
set_option maxRecDepth 20000 in
theorem dJ9_min_7cf53_0 : decode cJ9_min_7cf53 0 = .ok (.iload_n 0, 1) := by decide +kernel
set_option maxRecDepth 20000 in
theorem dJ9_min_7cf53_1 : decode cJ9_min_7cf53 1 = .ok (.iload_n 1, 1) := by decide +kernel
set_option maxRecDepth 20000 in
theorem dJ9_min_7cf53_2 : decode cJ9_min_7cf53 2 = .ok (.if_icmp .gt 7, 3) := by decide +kernel
set_option maxRecDepth 20000 in
theorem dJ9_min_7cf53_5 : decode cJ9_min_7cf53 5 = .ok (.iload_n 0, 1) := by decide +kernel
set_option maxRecDepth 20000 in
theorem dJ9_min_7cf53_6 : decode cJ9_min_7cf53 6 = .ok (.goto 4, 3) := by decide +kernel
set_option maxRecDepth 20000 in
theorem dJ9_min_7cf53_9 : decode cJ9_min_7cf53 9 = .ok (.iload_n 1, 1) := by decide +kernel
set_option maxRecDepth 20000 in
theorem dJ9_min_7cf53_10 : decode cJ9_min_7cf53 10 = .ok (.ireturn, 1) := by decide +kernel
set_option maxRecDepth 20000 in
theorem dJ0_length_8abf5_0 : decode cJ0_length_8abf5 0 = .ok (.aload_n 0, 1) := by decide +kernel
set_option maxRecDepth 20000 in
theorem dJ0_length_8abf5_1 : decode cJ0_length_8abf5 1 = .ok (.getfield 9, 3) := by decide +kernel
set_option maxRecDepth 20000 in
theorem dJ0_length_8abf5_4 : decode cJ0_length_8abf5 4 = .ok (.arraylength, 1) := by decide +kernel
set_option maxRecDepth 20000 in
theorem dJ0_length_8abf5_5 : decode cJ0_length_8abf5 5 = .ok (.aload_n 0, 1) := by decide +kernel
set_option maxRecDepth 20000 in
theorem dJ0_length_8abf5_6 : decode cJ0_length_8abf5 6 = .ok (.invokevirtual 335, 3) := by decide +kernel
set_option maxRecDepth 20000 in
theorem dJ0_length_8abf5_9 : decode cJ0_length_8abf5 9 = .ok (.ishr, 1) := by decide +kernel
set_option maxRecDepth 20000 in
theorem dJ0_length_8abf5_10 : decode cJ0_length_8abf5 10 = .ok (.ireturn, 1) := by decide +kernel
set_option maxRecDepth 20000 in
theorem dJ0_charAt_5068e_0 : decode cJ0_charAt_5068e 0 = .ok (.aload_n 0, 1) := by decide +kernel
set_option maxRecDepth 20000 in
theorem dJ0_charAt_5068e_1 : decode cJ0_charAt_5068e 1 = .ok (.invokevirtual 492, 3) := by decide +kernel
set_option maxRecDepth 20000 in
theorem dJ0_charAt_5068e_4 : decode cJ0_charAt_5068e 4 = .ok (.ifCond .eq 12, 3) := by decide +kernel
set_option maxRecDepth 20000 in
theorem dJ0_charAt_5068e_7 : decode cJ0_charAt_5068e 7 = .ok (.aload_n 0, 1) := by decide +kernel
set_option maxRecDepth 20000 in
theorem dJ0_charAt_5068e_8 : decode cJ0_charAt_5068e 8 = .ok (.getfield 9, 3) := by decide +kernel
set_option maxRecDepth 20000 in
theorem dJ0_charAt_5068e_11 : decode cJ0_charAt_5068e 11 = .ok (.iload_n 1, 1) := by decide +kernel
set_option maxRecDepth 20000 in
theorem dJ0_charAt_5068e_12 : decode cJ0_charAt_5068e 12 = .ok (.invokestatic 495, 3) := by decide +kernel
set_option maxRecDepth 20000 in
theorem dJ0_charAt_5068e_15 : decode cJ0_charAt_5068e 15 = .ok (.ireturn, 1) := by decide +kernel
set_option maxRecDepth 20000 in
theorem dJ0_charAt_5068e_16 : decode cJ0_charAt_5068e 16 = .ok (.aload_n 0, 1) := by decide +kernel
set_option maxRecDepth 20000 in
theorem dJ0_charAt_5068e_17 : decode cJ0_charAt_5068e 17 = .ok (.getfield 9, 3) := by decide +kernel
set_option maxRecDepth 20000 in
theorem dJ0_charAt_5068e_20 : decode cJ0_charAt_5068e 20 = .ok (.iload_n 1, 1) := by decide +kernel
set_option maxRecDepth 20000 in
theorem dJ0_charAt_5068e_21 : decode cJ0_charAt_5068e 21 = .ok (.invokestatic 498, 3) := by decide +kernel
set_option maxRecDepth 20000 in
theorem dJ0_charAt_5068e_24 : decode cJ0_charAt_5068e 24 = .ok (.ireturn, 1) := by decide +kernel
set_option maxRecDepth 20000 in
theorem dJ0_coder_7d493_0 : decode cJ0_coder_7d493 0 = .ok (.getstatic 38, 3) := by decide +kernel
set_option maxRecDepth 20000 in
theorem dJ0_coder_7d493_3 : decode cJ0_coder_7d493 3 = .ok (.ifCond .eq 10, 3) := by decide +kernel
set_option maxRecDepth 20000 in
theorem dJ0_coder_7d493_6 : decode cJ0_coder_7d493 6 = .ok (.aload_n 0, 1) := by decide +kernel
set_option maxRecDepth 20000 in
theorem dJ0_coder_7d493_7 : decode cJ0_coder_7d493 7 = .ok (.getfield 15, 3) := by decide +kernel
set_option maxRecDepth 20000 in
theorem dJ0_coder_7d493_10 : decode cJ0_coder_7d493 10 = .ok (.goto 4, 3) := by decide +kernel
set_option maxRecDepth 20000 in
theorem dJ0_coder_7d493_13 : decode cJ0_coder_7d493 13 = .ok (.iconst 1, 1) := by decide +kernel
set_option maxRecDepth 20000 in
theorem dJ0_coder_7d493_14 : decode cJ0_coder_7d493 14 = .ok (.ireturn, 1) := by decide +kernel
set_option maxRecDepth 20000 in
theorem dJ0_isLatin1_aae02_0 : decode cJ0_isLatin1_aae02 0 = .ok (.getstatic 38, 3) := by decide +kernel
set_option maxRecDepth 20000 in
theorem dJ0_isLatin1_aae02_3 : decode cJ0_isLatin1_aae02 3 = .ok (.ifCond .eq 14, 3) := by decide +kernel
set_option maxRecDepth 20000 in
theorem dJ0_isLatin1_aae02_6 : decode cJ0_isLatin1_aae02 6 = .ok (.aload_n 0, 1) := by decide +kernel
set_option maxRecDepth 20000 in
theorem dJ0_isLatin1_aae02_7 : decode cJ0_isLatin1_aae02 7 = .ok (.getfield 15, 3) := by decide +kernel
set_option maxRecDepth 20000 in
theorem dJ0_isLatin1_aae02_10 : decode cJ0_isLatin1_aae02 10 = .ok (.ifCond .ne 7, 3) := by decide +kernel
set_option maxRecDepth 20000 in
theorem dJ0_isLatin1_aae02_13 : decode cJ0_isLatin1_aae02 13 = .ok (.iconst 1, 1) := by decide +kernel
set_option maxRecDepth 20000 in
theorem dJ0_isLatin1_aae02_14 : decode cJ0_isLatin1_aae02 14 = .ok (.goto 4, 3) := by decide +kernel
set_option maxRecDepth 20000 in
theorem dJ0_isLatin1_aae02_17 : decode cJ0_isLatin1_aae02 17 = .ok (.iconst 0, 1) := by decide +kernel
set_option maxRecDepth 20000 in
theorem dJ0_isLatin1_aae02_18 : decode cJ0_isLatin1_aae02 18 = .ok (.ireturn, 1) := by decide +kernel
set_option maxRecDepth 20000 in
theorem dJ0_checkIndex_df160_0 : decode cJ0_checkIndex_df160 0 = .ok (.iload_n 0, 1) := by decide +kernel
set_option maxRecDepth 20000 in
theorem dJ0_checkIndex_df160_1 : decode cJ0_checkIndex_df160 1 = .ok (.iload_n 1, 1) := by decide +kernel
set_option maxRecDepth 20000 in
theorem dJ0_checkIndex_df160_2 : decode cJ0_checkIndex_df160 2 = .ok (.getstatic 1053, 3) := by decide +kernel
set_option maxRecDepth 20000 in
theorem dJ0_checkIndex_df160_5 : decode cJ0_checkIndex_df160 5 = .ok (.invokestatic 1059, 3) := by decide +kernel
set_option maxRecDepth 20000 in
theorem dJ0_checkIndex_df160_8 : decode cJ0_checkIndex_df160 8 = .ok (.pop, 1) := by decide +kernel
set_option maxRecDepth 20000 in
theorem dJ0_checkIndex_df160_9 : decode cJ0_checkIndex_df160 9 = .ok (.return_, 1) := by decide +kernel
set_option maxRecDepth 20000 in
theorem dJ1_charAt_3b067_0 : decode cJ1_charAt_3b067 0 = .ok (.iload_n 1, 1) := by decide +kernel
set_option maxRecDepth 20000 in
theorem dJ1_charAt_3b067_1 : decode cJ1_charAt_3b067 1 = .ok (.aload_n 0, 1) := by decide +kernel
set_option maxRecDepth 20000 in
theorem dJ1_charAt_3b067_2 : decode cJ1_charAt_3b067 2 = .ok (.arraylength, 1) := by decide +kernel
set_option maxRecDepth 20000 in
theorem dJ1_charAt_3b067_3 : decode cJ1_charAt_3b067 3 = .ok (.invokestatic 9, 3) := by decide +kernel
set_option maxRecDepth 20000 in
theorem dJ1_charAt_3b067_6 : decode cJ1_charAt_3b067 6 = .ok (.aload_n 0, 1) := by decide +kernel
set_option maxRecDepth 20000 in
theorem dJ1_charAt_3b067_7 : decode cJ1_charAt_3b067 7 = .ok (.iload_n 1, 1) := by decide +kernel
set_option maxRecDepth 20000 in
theorem dJ1_charAt_3b067_8 : decode cJ1_charAt_3b067 8 = .ok (.baload, 1) := by decide +kernel
set_option maxRecDepth 20000 in
theorem dJ1_charAt_3b067_9 : decode cJ1_charAt_3b067 9 = .ok (.sipush 255, 3) := by decide +kernel
set_option maxRecDepth 20000 in
theorem dJ1_charAt_3b067_12 : decode cJ1_charAt_3b067 12 = .ok (.iand, 1) := by decide +kernel
set_option maxRecDepth 20000 in
theorem dJ1_charAt_3b067_13 : decode cJ1_charAt_3b067 13 = .ok (.i2c, 1) := by decide +kernel
set_option maxRecDepth 20000 in
theorem dJ1_charAt_3b067_14 : decode cJ1_charAt_3b067 14 = .ok (.ireturn, 1) := by decide +kernel
set_option maxRecDepth 20000 in
theorem dJ2_getChar_3b067_0 : decode cJ2_getChar_3b067 0 = .ok (.getstatic 44, 3) := by decide +kernel
set_option maxRecDepth 20000 in
theorem dJ2_getChar_3b067_3 : decode cJ2_getChar_3b067 3 = .ok (.ifCond .ne 25, 3) := by decide +kernel
set_option maxRecDepth 20000 in
theorem dJ2_getChar_3b067_6 : decode cJ2_getChar_3b067 6 = .ok (.iload_n 1, 1) := by decide +kernel
set_option maxRecDepth 20000 in
theorem dJ2_getChar_3b067_7 : decode cJ2_getChar_3b067 7 = .ok (.ifCond .lt 11, 3) := by decide +kernel
set_option maxRecDepth 20000 in
theorem dJ2_getChar_3b067_10 : decode cJ2_getChar_3b067 10 = .ok (.iload_n 1, 1) := by decide +kernel
set_option maxRecDepth 20000 in
theorem dJ2_getChar_3b067_11 : decode cJ2_getChar_3b067 11 = .ok (.aload_n 0, 1) := by decide +kernel
set_option maxRecDepth 20000 in
theorem dJ2_getChar_3b067_12 : decode cJ2_getChar_3b067 12 = .ok (.invokestatic 48, 3) := by decide +kernel
set_option maxRecDepth 20000 in
theorem dJ2_getChar_3b067_15 : decode cJ2_getChar_3b067 15 = .ok (.if_icmp .lt 13, 3) := by decide +kernel
set_option maxRecDepth 20000 in
theorem dJ2_getChar_3b067_18 : decode cJ2_getChar_3b067 18 = .ok (.new 52, 3) := by decide +kernel
set_option maxRecDepth 20000 in
theorem dJ2_getChar_3b067_21 : decode cJ2_getChar_3b067 21 = .ok (.dup, 1) := by decide +kernel
set_option maxRecDepth 20000 in
theorem dJ2_getChar_3b067_22 : decode cJ2_getChar_3b067 22 = .ok (.ldc 54, 2) := by decide +kernel
set_option maxRecDepth 20000 in
theorem dJ2_getChar_3b067_24 : decode cJ2_getChar_3b067 24 = .ok (.invokespecial 56, 3) := by decide +kernel
set_option maxRecDepth 20000 in
theorem dJ2_getChar_3b067_27 : decode cJ2_getChar_3b067 27 = .ok (.athrow, 1) := by decide +kernel
set_option maxRecDepth 20000 in
theorem dJ2_getChar_3b067_28 : decode cJ2_getChar_3b067 28 = .ok (.iload_n 1, 1) := by decide +kernel
set_option maxRecDepth 20000 in
theorem dJ2_getChar_3b067_29 : decode cJ2_getChar_3b067 29 = .ok (.iconst 1, 1) := by decide +kernel
set_option maxRecDepth 20000 in
theorem dJ2_getChar_3b067_30 : decode cJ2_getChar_3b067 30 = .ok (.ishl, 1) := by decide +kernel
set_option maxRecDepth 20000 in
theorem dJ2_getChar_3b067_31 : decode cJ2_getChar_3b067 31 = .ok (.istore_n 1, 1) := by decide +kernel
set_option maxRecDepth 20000 in
theorem dJ2_getChar_3b067_32 : decode cJ2_getChar_3b067 32 = .ok (.aload_n 0, 1) := by decide +kernel
set_option maxRecDepth 20000 in
theorem dJ2_getChar_3b067_33 : decode cJ2_getChar_3b067 33 = .ok (.iload_n 1, 1) := by decide +kernel
set_option maxRecDepth 20000 in
theorem dJ2_getChar_3b067_34 : decode cJ2_getChar_3b067 34 = .ok (.iinc 1 1, 3) := by decide +kernel
set_option maxRecDepth 20000 in
theorem dJ2_getChar_3b067_37 : decode cJ2_getChar_3b067 37 = .ok (.baload, 1) := by decide +kernel
set_option maxRecDepth 20000 in
theorem dJ2_getChar_3b067_38 : decode cJ2_getChar_3b067 38 = .ok (.sipush 255, 3) := by decide +kernel
set_option maxRecDepth 20000 in
theorem dJ2_getChar_3b067_41 : decode cJ2_getChar_3b067 41 = .ok (.iand, 1) := by decide +kernel
set_option maxRecDepth 20000 in
theorem dJ2_getChar_3b067_42 : decode cJ2_getChar_3b067 42 = .ok (.getstatic 59, 3) := by decide +kernel
set_option maxRecDepth 20000 in
theorem dJ2_getChar_3b067_45 : decode cJ2_getChar_3b067 45 = .ok (.ishl, 1) := by decide +kernel
set_option maxRecDepth 20000 in
theorem dJ2_getChar_3b067_46 : decode cJ2_getChar_3b067 46 = .ok (.aload_n 0, 1) := by decide +kernel
set_option maxRecDepth 20000 in
theorem dJ2_getChar_3b067_47 : decode cJ2_getChar_3b067 47 = .ok (.iload_n 1, 1) := by decide +kernel
set_option maxRecDepth 20000 in
theorem dJ2_getChar_3b067_48 : decode cJ2_getChar_3b067 48 = .ok (.baload, 1) := by decide +kernel
set_option maxRecDepth 20000 in
theorem dJ2_getChar_3b067_49 : decode cJ2_getChar_3b067 49 = .ok (.sipush 255, 3) := by decide +kernel
set_option maxRecDepth 20000 in
theorem dJ2_getChar_3b067_52 : decode cJ2_getChar_3b067 52 = .ok (.iand, 1) := by decide +kernel
set_option maxRecDepth 20000 in
theorem dJ2_getChar_3b067_53 : decode cJ2_getChar_3b067 53 = .ok (.getstatic 63, 3) := by decide +kernel
set_option maxRecDepth 20000 in
theorem dJ2_getChar_3b067_56 : decode cJ2_getChar_3b067 56 = .ok (.ishl, 1) := by decide +kernel
set_option maxRecDepth 20000 in
theorem dJ2_getChar_3b067_57 : decode cJ2_getChar_3b067 57 = .ok (.ior, 1) := by decide +kernel
set_option maxRecDepth 20000 in
theorem dJ2_getChar_3b067_58 : decode cJ2_getChar_3b067 58 = .ok (.i2c, 1) := by decide +kernel
set_option maxRecDepth 20000 in
theorem dJ2_getChar_3b067_59 : decode cJ2_getChar_3b067 59 = .ok (.ireturn, 1) := by decide +kernel
set_option maxRecDepth 20000 in
theorem dJ2_length_9d52b_0 : decode cJ2_length_9d52b 0 = .ok (.aload_n 0, 1) := by decide +kernel
set_option maxRecDepth 20000 in
theorem dJ2_length_9d52b_1 : decode cJ2_length_9d52b 1 = .ok (.arraylength, 1) := by decide +kernel
set_option maxRecDepth 20000 in
theorem dJ2_length_9d52b_2 : decode cJ2_length_9d52b 2 = .ok (.iconst 1, 1) := by decide +kernel
set_option maxRecDepth 20000 in
theorem dJ2_length_9d52b_3 : decode cJ2_length_9d52b 3 = .ok (.ishr, 1) := by decide +kernel
set_option maxRecDepth 20000 in
theorem dJ2_length_9d52b_4 : decode cJ2_length_9d52b 4 = .ok (.ireturn, 1) := by decide +kernel
set_option maxRecDepth 20000 in
theorem dJ2_charAt_3b067_0 : decode cJ2_charAt_3b067 0 = .ok (.iload_n 1, 1) := by decide +kernel
set_option maxRecDepth 20000 in
theorem dJ2_charAt_3b067_1 : decode cJ2_charAt_3b067 1 = .ok (.aload_n 0, 1) := by decide +kernel
set_option maxRecDepth 20000 in
theorem dJ2_charAt_3b067_2 : decode cJ2_charAt_3b067 2 = .ok (.invokestatic 67, 3) := by decide +kernel
set_option maxRecDepth 20000 in
theorem dJ2_charAt_3b067_5 : decode cJ2_charAt_3b067 5 = .ok (.aload_n 0, 1) := by decide +kernel
set_option maxRecDepth 20000 in
theorem dJ2_charAt_3b067_6 : decode cJ2_charAt_3b067 6 = .ok (.iload_n 1, 1) := by decide +kernel
set_option maxRecDepth 20000 in
theorem dJ2_charAt_3b067_7 : decode cJ2_charAt_3b067 7 = .ok (.invokestatic 71, 3) := by decide +kernel
set_option maxRecDepth 20000 in
theorem dJ2_charAt_3b067_10 : decode cJ2_charAt_3b067 10 = .ok (.ireturn, 1) := by decide +kernel
set_option maxRecDepth 20000 in
theorem dJ2_checkIndex_2214a_0 : decode cJ2_checkIndex_2214a 0 = .ok (.iload_n 0, 1) := by decide +kernel
set_option maxRecDepth 20000 in
theorem dJ2_checkIndex_2214a_1 : decode cJ2_checkIndex_2214a 1 = .ok (.aload_n 1, 1) := by decide +kernel
set_option maxRecDepth 20000 in
theorem dJ2_checkIndex_2214a_2 : decode cJ2_checkIndex_2214a 2 = .ok (.invokestatic 48, 3) := by decide +kernel
set_option maxRecDepth 20000 in
theorem dJ2_checkIndex_2214a_5 : decode cJ2_checkIndex_2214a 5 = .ok (.invokestatic 414, 3) := by decide +kernel
set_option maxRecDepth 20000 in
theorem dJ2_checkIndex_2214a_8 : decode cJ2_checkIndex_2214a 8 = .ok (.return_, 1) := by decide +kernel
set_option maxRecDepth 20000 in
theorem dJ3_checkIndex_8e157_0 : decode cJ3_checkIndex_8e157 0 = .ok (.iload_n 0, 1) := by decide +kernel
set_option maxRecDepth 20000 in
theorem dJ3_checkIndex_8e157_1 : decode cJ3_checkIndex_8e157 1 = .ok (.ifCond .lt 8, 3) := by decide +kernel
set_option maxRecDepth 20000 in
theorem dJ3_checkIndex_8e157_4 : decode cJ3_checkIndex_8e157 4 = .ok (.iload_n 0, 1) := by decide +kernel
set_option maxRecDepth 20000 in
theorem dJ3_checkIndex_8e157_5 : decode cJ3_checkIndex_8e157 5 = .ok (.iload_n 1, 1) := by decide +kernel
set_option maxRecDepth 20000 in
theorem dJ3_checkIndex_8e157_6 : decode cJ3_checkIndex_8e157 6 = .ok (.if_icmp .lt 10, 3) := by decide +kernel
set_option maxRecDepth 20000 in
theorem dJ3_checkIndex_8e157_9 : decode cJ3_checkIndex_8e157 9 = .ok (.aload_n 2, 1) := by decide +kernel
set_option maxRecDepth 20000 in
theorem dJ3_checkIndex_8e157_10 : decode cJ3_checkIndex_8e157 10 = .ok (.iload_n 0, 1) := by decide +kernel
set_option maxRecDepth 20000 in
theorem dJ3_checkIndex_8e157_11 : decode cJ3_checkIndex_8e157 11 = .ok (.iload_n 1, 1) := by decide +kernel
set_option maxRecDepth 20000 in
theorem dJ3_checkIndex_8e157_12 : decode cJ3_checkIndex_8e157 12 = .ok (.invokestatic 95, 3) := by decide +kernel
set_option maxRecDepth 20000 in
theorem dJ3_checkIndex_8e157_15 : decode cJ3_checkIndex_8e157 15 = .ok (.athrow, 1) := by decide +kernel
set_option maxRecDepth 20000 in
theorem dJ3_checkIndex_8e157_16 : decode cJ3_checkIndex_8e157 16 = .ok (.iload_n 0, 1) := by decide +kernel
set_option maxRecDepth 20000 in
theorem dJ3_checkIndex_8e157_17 : decode cJ3_checkIndex_8e157 17 = .ok (.ireturn, 1) := by decide +kernel
end
section
set_option maxRecDepth 20000 in
theorem dX4_init_0 : decode cX4_init 0 = .ok (.aload_n 0, 1) := by decide +kernel
set_option maxRecDepth 20000 in
theorem dX4_init_1 : decode cX4_init 1 = .ok (.invokespecial 1, 3) := by decide +kernel
set_option maxRecDepth 20000 in
theorem dX4_init_4 : decode cX4_init 4 = .ok (.aload_n 0, 1) := by decide +kernel
set_option maxRecDepth 20000 in
theorem dX4_init_5 : decode cX4_init 5 = .ok (.new 7, 3) := by decide +kernel
set_option maxRecDepth 20000 in
theorem dX4_init_8 : decode cX4_init 8 = .ok (.dup, 1) := by decide +kernel
set_option maxRecDepth 20000 in
theorem dX4_init_9 : decode cX4_init 9 = .ok (.invokespecial 9, 3) := by decide +kernel
set_option maxRecDepth 20000 in
theorem dX4_init_12 : decode cX4_init 12 = .ok (.putfield 10, 3) := by decide +kernel
set_option maxRecDepth 20000 in
theorem dX4_init_15 : decode cX4_init 15 = .ok (.aload_n 0, 1) := by decide +kernel
set_option maxRecDepth 20000 in
theorem dX4_init_16 : decode cX4_init 16 = .ok (.new 16, 3) := by decide +kernel
set_option maxRecDepth 20000 in
theorem dX4_init_19 : decode cX4_init 19 = .ok (.dup, 1) := by decide +kernel
set_option maxRecDepth 20000 in
theorem dX4_init_20 : decode cX4_init 20 = .ok (.iconst 5, 1) := by decide +kernel
set_option maxRecDepth 20000 in
theorem dX4_init_21 : decode cX4_init 21 = .ok (.invokespecial 18, 3) := by decide +kernel
set_option maxRecDepth 20000 in
theorem dX4_init_24 : decode cX4_init 24 = .ok (.putfield 21, 3) := by decide +kernel
set_option maxRecDepth 20000 in
theorem dX4_init_27 : decode cX4_init 27 = .ok (.aload_n 0, 1) := by decide +kernel
set_option maxRecDepth 20000 in
theorem dX4_init_28 : decode cX4_init 28 = .ok (.new 16, 3) := by decide +kernel
set_option maxRecDepth 20000 in
theorem dX4_init_31 : decode cX4_init 31 = .ok (.dup, 1) := by decide +kernel
set_option maxRecDepth 20000 in
theorem dX4_init_32 : decode cX4_init 32 = .ok (.bipush 6, 2) := by decide +kernel
set_option maxRecDepth 20000 in
theorem dX4_init_34 : decode cX4_init 34 = .ok (.invokespecial 18, 3) := by decide +kernel
set_option maxRecDepth 20000 in
theorem dX4_init_37 : decode cX4_init 37 = .ok (.putfield 25, 3) := by decide +kernel
set_option maxRecDepth 20000 in
theorem dX4_init_40 : decode cX4_init 40 = .ok (.aload_n 0, 1) := by decide +kernel
set_option maxRecDepth 20000 in
theorem dX4_init_41 : decode cX4_init 41 = .ok (.new 16, 3) := by decide +kernel
set_option maxRecDepth 20000 in
theorem dX4_init_44 : decode cX4_init 44 = .ok (.dup, 1) := by decide +kernel
set_option maxRecDepth 20000 in
theorem dX4_init_45 : decode cX4_init 45 = .ok (.bipush 32, 2) := by decide +kernel
set_option maxRecDepth 20000 in
theorem dX4_init_47 : decode cX4_init 47 = .ok (.invokespecial 18, 3) := by decide +kernel
set_option maxRecDepth 20000 in
theorem dX4_init_50 : decode cX4_init 50 = .ok (.putfield 28, 3) := by decide +kernel
set_option maxRecDepth 20000 in
theorem dX4_init_53 : decode cX4_init 53 = .ok (.aload_n 0, 1) := by decide +kernel
set_option maxRecDepth 20000 in
theorem dX4_init_54 : decode cX4_init 54 = .ok (.new 31, 3) := by decide +kernel
set_option maxRecDepth 20000 in
theorem dX4_init_57 : decode cX4_init 57 = .ok (.dup, 1) := by decide +kernel
set_option maxRecDepth 20000 in
theorem dX4_init_58 : decode cX4_init 58 = .ok (.invokespecial 33, 3) := by decide +kernel
set_option maxRecDepth 20000 in
theorem dX4_init_61 : decode cX4_init 61 = .ok (.putfield 34, 3) := by decide +kernel
set_option maxRecDepth 20000 in
theorem dX4_init_64 : decode cX4_init 64 = .ok (.aload_n 0, 1) := by decide +kernel
set_option maxRecDepth 20000 in
theorem dX4_init_65 : decode cX4_init 65 = .ok (.new 31, 3) := by decide +kernel
set_option maxRecDepth 20000 in
theorem dX4_init_68 : decode cX4_init 68 = .ok (.dup, 1) := by decide +kernel
set_option maxRecDepth 20000 in
theorem dX4_init_69 : decode cX4_init 69 = .ok (.invokespecial 33, 3) := by decide +kernel
set_option maxRecDepth 20000 in
theorem dX4_init_72 : decode cX4_init 72 = .ok (.putfield 38, 3) := by decide +kernel
set_option maxRecDepth 20000 in
theorem dX4_init_75 : decode cX4_init 75 = .ok (.aload_n 0, 1) := by decide +kernel
set_option maxRecDepth 20000 in
theorem dX4_init_76 : decode cX4_init 76 = .ok (.new 31, 3) := by decide +kernel
set_option maxRecDepth 20000 in
theorem dX4_init_79 : decode cX4_init 79 = .ok (.dup, 1) := by decide +kernel
set_option maxRecDepth 20000 in
theorem dX4_init_80 : decode cX4_init 80 = .ok (.invokespecial 33, 3) := by decide +kernel
set_option maxRecDepth 20000 in
theorem dX4_init_83 : decode cX4_init 83 = .ok (.putfield 41, 3) := by decide +kernel
set_option maxRecDepth 20000 in
theorem dX4_init_86 : decode cX4_init 86 = .ok (.aload_n 0, 1) := by decide +kernel
set_option maxRecDepth 20000 in
theorem dX4_init_87 : decode cX4_init 87 = .ok (.iconst 0, 1) := by decide +kernel
set_option maxRecDepth 20000 in
theorem dX4_init_88 : decode cX4_init 88 = .ok (.putfield 44, 3) := by decide +kernel
set_option maxRecDepth 20000 in
theorem dX4_init_91 : decode cX4_init 91 = .ok (.aload_n 0, 1) := by decide +kernel
set_option maxRecDepth 20000 in
theorem dX4_init_92 : decode cX4_init 92 = .ok (.iconst 0, 1) := by decide +kernel
set_option maxRecDepth 20000 in
theorem dX4_init_93 : decode cX4_init 93 = .ok (.putfield 48, 3) := by decide +kernel
set_option maxRecDepth 20000 in
theorem dX4_init_96 : decode cX4_init 96 = .ok (.aload_n 0, 1) := by decide +kernel
set_option maxRecDepth 20000 in
theorem dX4_init_97 : decode cX4_init 97 = .ok (.lconst 0, 1) := by decide +kernel
set_option maxRecDepth 20000 in
theorem dX4_init_98 : decode cX4_init 98 = .ok (.putfield 51, 3) := by decide +kernel
set_option maxRecDepth 20000 in
theorem dX4_init_101 : decode cX4_init 101 = .ok (.return_, 1) := by decide +kernel
set_option maxRecDepth 20000 in
theorem dX4_type_0 : decode cX4_type 0 = .ok (.iload_n 3, 1) := by decide +kernel
set_option maxRecDepth 20000 in
theorem dX4_type_1 : decode cX4_type 1 = .ok (.iconst 1, 1) := by decide +kernel
set_option maxRecDepth 20000 in
theorem dX4_type_2 : decode cX4_type 2 = .ok (.bipush 8, 2) := by decide +kernel
set_option maxRecDepth 20000 in
theorem dX4_type_4 : decode cX4_type 4 = .ok (.invokestatic 55, 3) := by decide +kernel
set_option maxRecDepth 20000 in
theorem dX4_type_7 : decode cX4_type 7 = .ok (.ifCond .ne 5, 3) := by decide +kernel
set_option maxRecDepth 20000 in
theorem dX4_type_10 : decode cX4_type 10 = .ok (.iconst (-1), 1) := by decide +kernel
set_option maxRecDepth 20000 in
theorem dX4_type_11 : decode cX4_type 11 = .ok (.ireturn, 1) := by decide +kernel
set_option maxRecDepth 20000 in
theorem dX4_type_12 : decode cX4_type 12 = .ok (.aload_n 0, 1) := by decide +kernel
set_option maxRecDepth 20000 in
theorem dX4_type_13 : decode cX4_type 13 = .ok (.getfield 10, 3) := by decide +kernel
set_option maxRecDepth 20000 in
theorem dX4_type_16 : decode cX4_type 16 = .ok (.getfield 59, 3) := by decide +kernel
set_option maxRecDepth 20000 in
theorem dX4_type_19 : decode cX4_type 19 = .ok (.invokevirtual 62, 3) := by decide +kernel
set_option maxRecDepth 20000 in
theorem dX4_type_22 : decode cX4_type 22 = .ok (.iload_n 3, 1) := by decide +kernel
set_option maxRecDepth 20000 in
theorem dX4_type_23 : decode cX4_type 23 = .ok (.iadd, 1) := by decide +kernel
set_option maxRecDepth 20000 in
theorem dX4_type_24 : decode cX4_type 24 = .ok (.sipush 200, 3) := by decide +kernel
set_option maxRecDepth 20000 in
theorem dX4_type_27 : decode cX4_type 27 = .ok (.if_icmp .le 6, 3) := by decide +kernel
set_option maxRecDepth 20000 in
theorem dX4_type_30 : decode cX4_type 30 = .ok (.bipush (-3), 2) := by decide +kernel
set_option maxRecDepth 20000 in
theorem dX4_type_32 : decode cX4_type 32 = .ok (.ireturn, 1) := by decide +kernel
set_option maxRecDepth 20000 in
theorem dX4_type_33 : decode cX4_type 33 = .ok (.iload_n 3, 1) := by decide +kernel
set_option maxRecDepth 20000 in
theorem dX4_type_34 : decode cX4_type 34 = .ok (.iconst 1, 1) := by decide +kernel
set_option maxRecDepth 20000 in
theorem dX4_type_35 : decode cX4_type 35 = .ok (.isub, 1) := by decide +kernel
set_option maxRecDepth 20000 in
theorem dX4_type_36 : decode cX4_type 36 = .ok (.istore 4, 2) := by decide +kernel
set_option maxRecDepth 20000 in
theorem dX4_type_38 : decode cX4_type 38 = .ok (.iload 4, 2) := by decide +kernel
set_option maxRecDepth 20000 in
theorem dX4_type_40 : decode cX4_type 40 = .ok (.ifCond .lt 31, 3) := by decide +kernel
set_option maxRecDepth 20000 in
theorem dX4_type_43 : decode cX4_type 43 = .ok (.aload_n 0, 1) := by decide +kernel
set_option maxRecDepth 20000 in
theorem dX4_type_44 : decode cX4_type 44 = .ok (.getfield 10, 3) := by decide +kernel
set_option maxRecDepth 20000 in
theorem dX4_type_47 : decode cX4_type 47 = .ok (.getfield 59, 3) := by decide +kernel
set_option maxRecDepth 20000 in
theorem dX4_type_50 : decode cX4_type 50 = .ok (.lload_n 1, 1) := by decide +kernel
set_option maxRecDepth 20000 in
theorem dX4_type_51 : decode cX4_type 51 = .ok (.bipush 8, 2) := by decide +kernel
set_option maxRecDepth 20000 in
theorem dX4_type_53 : decode cX4_type 53 = .ok (.iload 4, 2) := by decide +kernel
set_option maxRecDepth 20000 in
theorem dX4_type_55 : decode cX4_type 55 = .ok (.imul, 1) := by decide +kernel
set_option maxRecDepth 20000 in
theorem dX4_type_56 : decode cX4_type 56 = .ok (.lshr, 1) := by decide +kernel
set_option maxRecDepth 20000 in
theorem dX4_type_57 : decode cX4_type 57 = .ok (.ldc2_w 66, 3) := by decide +kernel
set_option maxRecDepth 20000 in
theorem dX4_type_60 : decode cX4_type 60 = .ok (.land, 1) := by decide +kernel
set_option maxRecDepth 20000 in
theorem dX4_type_61 : decode cX4_type 61 = .ok (.l2i, 1) := by decide +kernel
set_option maxRecDepth 20000 in
theorem dX4_type_62 : decode cX4_type 62 = .ok (.invokevirtual 68, 3) := by decide +kernel
set_option maxRecDepth 20000 in
theorem dX4_type_65 : decode cX4_type 65 = .ok (.iinc 4 (-1), 3) := by decide +kernel
set_option maxRecDepth 20000 in
theorem dX4_type_68 : decode cX4_type 68 = .ok (.goto (-30), 3) := by decide +kernel
set_option maxRecDepth 20000 in
theorem dX4_type_71 : decode cX4_type 71 = .ok (.aload_n 0, 1) := by decide +kernel
set_option maxRecDepth 20000 in
theorem dX4_type_72 : decode cX4_type 72 = .ok (.getfield 10, 3) := by decide +kernel
set_option maxRecDepth 20000 in
theorem dX4_type_75 : decode cX4_type 75 = .ok (.getfield 59, 3) := by decide +kernel
set_option maxRecDepth 20000 in
theorem dX4_type_78 : decode cX4_type 78 = .ok (.invokevirtual 62, 3) := by decide +kernel
set_option maxRecDepth 20000 in
theorem dX4_type_81 : decode cX4_type 81 = .ok (.ireturn, 1) := by decide +kernel
set_option maxRecDepth 20000 in
theorem dX4_clear_0 : decode cX4_clear 0 = .ok (.aload_n 0, 1) := by decide +kernel
set_option maxRecDepth 20000 in
theorem dX4_clear_1 : decode cX4_clear 1 = .ok (.getfield 10, 3) := by decide +kernel
set_option maxRecDepth 20000 in
theorem dX4_clear_4 : decode cX4_clear 4 = .ok (.getfield 59, 3) := by decide +kernel
set_option maxRecDepth 20000 in
theorem dX4_clear_7 : decode cX4_clear 7 = .ok (.invokevirtual 62, 3) := by decide +kernel
set_option maxRecDepth 20000 in
theorem dX4_clear_10 : decode cX4_clear 10 = .ok (.istore_n 1, 1) := by decide +kernel
set_option maxRecDepth 20000 in
theorem dX4_clear_11 : decode cX4_clear 11 = .ok (.aload_n 0, 1) := by decide +kernel
set_option maxRecDepth 20000 in
theorem dX4_clear_12 : decode cX4_clear 12 = .ok (.getfield 10, 3) := by decide +kernel
set_option maxRecDepth 20000 in
theorem dX4_clear_15 : decode cX4_clear 15 = .ok (.getfield 59, 3) := by decide +kernel
set_option maxRecDepth 20000 in
theorem dX4_clear_18 : decode cX4_clear 18 = .ok (.iconst 0, 1) := by decide +kernel
set_option maxRecDepth 20000 in
theorem dX4_clear_19 : decode cX4_clear 19 = .ok (.invokevirtual 71, 3) := by decide +kernel
set_option maxRecDepth 20000 in
theorem dX4_clear_22 : decode cX4_clear 22 = .ok (.iload_n 1, 1) := by decide +kernel
set_option maxRecDepth 20000 in
theorem dX4_clear_23 : decode cX4_clear 23 = .ok (.ireturn, 1) := by decide +kernel
set_option maxRecDepth 20000 in
theorem dX4_gate_0 : decode cX4_gate 0 = .ok (.aload_n 0, 1) := by decide +kernel
set_option maxRecDepth 20000 in
theorem dX4_gate_1 : decode cX4_gate 1 = .ok (.getfield 10, 3) := by decide +kernel
set_option maxRecDepth 20000 in
theorem dX4_gate_4 : decode cX4_gate 4 = .ok (.invokevirtual 74, 3) := by decide +kernel
set_option maxRecDepth 20000 in
theorem dX4_gate_7 : decode cX4_gate 7 = .ok (.ifCond .ne 14, 3) := by decide +kernel
set_option maxRecDepth 20000 in
theorem dX4_gate_10 : decode cX4_gate 10 = .ok (.bipush (-10), 2) := by decide +kernel
set_option maxRecDepth 20000 in
theorem dX4_gate_12 : decode cX4_gate 12 = .ok (.aload_n 0, 1) := by decide +kernel
set_option maxRecDepth 20000 in
theorem dX4_gate_13 : decode cX4_gate 13 = .ok (.getfield 10, 3) := by decide +kernel
set_option maxRecDepth 20000 in
theorem dX4_gate_16 : decode cX4_gate 16 = .ok (.invokevirtual 78, 3) := by decide +kernel
set_option maxRecDepth 20000 in
theorem dX4_gate_19 : decode cX4_gate 19 = .ok (.isub, 1) := by decide +kernel
set_option maxRecDepth 20000 in
theorem dX4_gate_20 : decode cX4_gate 20 = .ok (.ireturn, 1) := by decide +kernel
set_option maxRecDepth 20000 in
theorem dX4_gate_21 : decode cX4_gate 21 = .ok (.aload_n 0, 1) := by decide +kernel
set_option maxRecDepth 20000 in
theorem dX4_gate_22 : decode cX4_gate 22 = .ok (.getfield 21, 3) := by decide +kernel
set_option maxRecDepth 20000 in
theorem dX4_gate_25 : decode cX4_gate 25 = .ok (.aload_n 0, 1) := by decide +kernel
set_option maxRecDepth 20000 in
theorem dX4_gate_26 : decode cX4_gate 26 = .ok (.getfield 10, 3) := by decide +kernel
set_option maxRecDepth 20000 in
theorem dX4_gate_29 : decode cX4_gate 29 = .ok (.getfield 81, 3) := by decide +kernel
set_option maxRecDepth 20000 in
theorem dX4_gate_32 : decode cX4_gate 32 = .ok (.invokevirtual 82, 3) := by decide +kernel
set_option maxRecDepth 20000 in
theorem dX4_gate_35 : decode cX4_gate 35 = .ok (.aload_n 0, 1) := by decide +kernel
set_option maxRecDepth 20000 in
theorem dX4_gate_36 : decode cX4_gate 36 = .ok (.getfield 25, 3) := by decide +kernel
set_option maxRecDepth 20000 in
theorem dX4_gate_39 : decode cX4_gate 39 = .ok (.aload_n 0, 1) := by decide +kernel
set_option maxRecDepth 20000 in
theorem dX4_gate_40 : decode cX4_gate 40 = .ok (.getfield 10, 3) := by decide +kernel
set_option maxRecDepth 20000 in
theorem dX4_gate_43 : decode cX4_gate 43 = .ok (.getfield 86, 3) := by decide +kernel
set_option maxRecDepth 20000 in
theorem dX4_gate_46 : decode cX4_gate 46 = .ok (.invokevirtual 82, 3) := by decide +kernel
set_option maxRecDepth 20000 in
theorem dX4_gate_49 : decode cX4_gate 49 = .ok (.aload_n 0, 1) := by decide +kernel
set_option maxRecDepth 20000 in
theorem dX4_gate_50 : decode cX4_gate 50 = .ok (.getfield 34, 3) := by decide +kernel
set_option maxRecDepth 20000 in
theorem dX4_gate_53 : decode cX4_gate 53 = .ok (.aload_n 0, 1) := by decide +kernel
set_option maxRecDepth 20000 in
theorem dX4_gate_54 : decode cX4_gate 54 = .ok (.getfield 25, 3) := by decide +kernel
set_option maxRecDepth 20000 in
theorem dX4_gate_57 : decode cX4_gate 57 = .ok (.invokevirtual 62, 3) := by decide +kernel
set_option maxRecDepth 20000 in
theorem dX4_gate_60 : decode cX4_gate 60 = .ok (.aload_n 0, 1) := by decide +kernel
set_option maxRecDepth 20000 in
theorem dX4_gate_61 : decode cX4_gate 61 = .ok (.getfield 10, 3) := by decide +kernel
set_option maxRecDepth 20000 in
theorem dX4_gate_64 : decode cX4_gate 64 = .ok (.getfield 87, 3) := by decide +kernel
set_option maxRecDepth 20000 in
theorem dX4_gate_67 : decode cX4_gate 67 = .ok (.invokevirtual 91, 3) := by decide +kernel
set_option maxRecDepth 20000 in
theorem dX4_gate_70 : decode cX4_gate 70 = .ok (.aload_n 0, 1) := by decide +kernel
set_option maxRecDepth 20000 in
theorem dX4_gate_71 : decode cX4_gate 71 = .ok (.getfield 28, 3) := by decide +kernel
set_option maxRecDepth 20000 in
theorem dX4_gate_74 : decode cX4_gate 74 = .ok (.iconst 0, 1) := by decide +kernel
set_option maxRecDepth 20000 in
theorem dX4_gate_75 : decode cX4_gate 75 = .ok (.invokevirtual 71, 3) := by decide +kernel
set_option maxRecDepth 20000 in
theorem dX4_gate_78 : decode cX4_gate 78 = .ok (.aload_n 0, 1) := by decide +kernel
set_option maxRecDepth 20000 in
theorem dX4_gate_79 : decode cX4_gate 79 = .ok (.iconst 0, 1) := by decide +kernel
set_option maxRecDepth 20000 in
theorem dX4_gate_80 : decode cX4_gate 80 = .ok (.putfield 44, 3) := by decide +kernel
set_option maxRecDepth 20000 in
theorem dX4_gate_83 : decode cX4_gate 83 = .ok (.aload_n 0, 1) := by decide +kernel
set_option maxRecDepth 20000 in
theorem dX4_gate_84 : decode cX4_gate 84 = .ok (.iconst 0, 1) := by decide +kernel
set_option maxRecDepth 20000 in
theorem dX4_gate_85 : decode cX4_gate 85 = .ok (.putfield 48, 3) := by decide +kernel
set_option maxRecDepth 20000 in
theorem dX4_gate_88 : decode cX4_gate 88 = .ok (.aload_n 0, 1) := by decide +kernel
set_option maxRecDepth 20000 in
theorem dX4_gate_89 : decode cX4_gate 89 = .ok (.getfield 10, 3) := by decide +kernel
set_option maxRecDepth 20000 in
theorem dX4_gate_92 : decode cX4_gate 92 = .ok (.getfield 59, 3) := by decide +kernel
set_option maxRecDepth 20000 in
theorem dX4_gate_95 : decode cX4_gate 95 = .ok (.iconst 0, 1) := by decide +kernel
set_option maxRecDepth 20000 in
theorem dX4_gate_96 : decode cX4_gate 96 = .ok (.invokevirtual 71, 3) := by decide +kernel
set_option maxRecDepth 20000 in
theorem dX4_gate_99 : decode cX4_gate 99 = .ok (.aload_n 0, 1) := by decide +kernel
set_option maxRecDepth 20000 in
theorem dX4_gate_100 : decode cX4_gate 100 = .ok (.getfield 10, 3) := by decide +kernel
set_option maxRecDepth 20000 in
theorem dX4_gate_103 : decode cX4_gate 103 = .ok (.getfield 95, 3) := by decide +kernel
set_option maxRecDepth 20000 in
theorem dX4_gate_106 : decode cX4_gate 106 = .ok (.ireturn, 1) := by decide +kernel
set_option maxRecDepth 20000 in
theorem dX4_load_0 : decode cX4_load 0 = .ok (.aload_n 0, 1) := by decide +kernel
set_option maxRecDepth 20000 in
theorem dX4_load_1 : decode cX4_load 1 = .ok (.iload_n 1, 1) := by decide +kernel
set_option maxRecDepth 20000 in
theorem dX4_load_2 : decode cX4_load 2 = .ok (.invokevirtual 98, 3) := by decide +kernel
set_option maxRecDepth 20000 in
theorem dX4_load_5 : decode cX4_load 5 = .ok (.ifCond .eq 14, 3) := by decide +kernel
set_option maxRecDepth 20000 in
theorem dX4_load_8 : decode cX4_load 8 = .ok (.aload_n 0, 1) := by decide +kernel
set_option maxRecDepth 20000 in
theorem dX4_load_9 : decode cX4_load 9 = .ok (.getfield 21, 3) := by decide +kernel
set_option maxRecDepth 20000 in
theorem dX4_load_12 : decode cX4_load 12 = .ok (.iload_n 1, 1) := by decide +kernel
set_option maxRecDepth 20000 in
theorem dX4_load_13 : decode cX4_load 13 = .ok (.invokevirtual 102, 3) := by decide +kernel
set_option maxRecDepth 20000 in
theorem dX4_load_16 : decode cX4_load 16 = .ok (.goto 4, 3) := by decide +kernel
set_option maxRecDepth 20000 in
theorem dX4_load_19 : decode cX4_load 19 = .ok (.iconst (-1), 1) := by decide +kernel
set_option maxRecDepth 20000 in
theorem dX4_load_20 : decode cX4_load 20 = .ok (.ireturn, 1) := by decide +kernel
set_option maxRecDepth 20000 in
theorem dX4_taster_0 : decode cX4_taster 0 = .ok (.aload_n 0, 1) := by decide +kernel
set_option maxRecDepth 20000 in
theorem dX4_taster_1 : decode cX4_taster 1 = .ok (.iload_n 1, 1) := by decide +kernel
set_option maxRecDepth 20000 in
theorem dX4_taster_2 : decode cX4_taster 2 = .ok (.invokevirtual 106, 3) := by decide +kernel
set_option maxRecDepth 20000 in
theorem dX4_taster_5 : decode cX4_taster 5 = .ok (.ifCond .eq 12, 3) := by decide +kernel
set_option maxRecDepth 20000 in
theorem dX4_taster_8 : decode cX4_taster 8 = .ok (.iload_n 2, 1) := by decide +kernel
set_option maxRecDepth 20000 in
theorem dX4_taster_9 : decode cX4_taster 9 = .ok (.iconst 0, 1) := by decide +kernel
set_option maxRecDepth 20000 in
theorem dX4_taster_10 : decode cX4_taster 10 = .ok (.iconst 4, 1) := by decide +kernel
set_option maxRecDepth 20000 in
theorem dX4_taster_11 : decode cX4_taster 11 = .ok (.invokestatic 55, 3) := by decide +kernel
set_option maxRecDepth 20000 in
theorem dX4_taster_14 : decode cX4_taster 14 = .ok (.ifCond .ne 5, 3) := by decide +kernel
set_option maxRecDepth 20000 in
theorem dX4_taster_17 : decode cX4_taster 17 = .ok (.iconst (-1), 1) := by decide +kernel
set_option maxRecDepth 20000 in
theorem dX4_taster_18 : decode cX4_taster 18 = .ok (.ireturn, 1) := by decide +kernel
set_option maxRecDepth 20000 in
theorem dX4_taster_19 : decode cX4_taster 19 = .ok (.iload_n 2, 1) := by decide +kernel
set_option maxRecDepth 20000 in
theorem dX4_taster_20 : decode cX4_taster 20 = .ok (.iconst 4, 1) := by decide +kernel
set_option maxRecDepth 20000 in
theorem dX4_taster_21 : decode cX4_taster 21 = .ok (.if_icmp .ne 17, 3) := by decide +kernel
set_option maxRecDepth 20000 in
theorem dX4_taster_24 : decode cX4_taster 24 = .ok (.aload_n 0, 1) := by decide +kernel
set_option maxRecDepth 20000 in
theorem dX4_taster_25 : decode cX4_taster 25 = .ok (.getfield 34, 3) := by decide +kernel
set_option maxRecDepth 20000 in
theorem dX4_taster_28 : decode cX4_taster 28 = .ok (.getfield 109, 3) := by decide +kernel
set_option maxRecDepth 20000 in
theorem dX4_taster_31 : decode cX4_taster 31 = .ok (.iload_n 1, 1) := by decide +kernel
set_option maxRecDepth 20000 in
theorem dX4_taster_32 : decode cX4_taster 32 = .ok (.invokevirtual 102, 3) := by decide +kernel
set_option maxRecDepth 20000 in
theorem dX4_taster_35 : decode cX4_taster 35 = .ok (.goto 15, 3) := by decide +kernel
set_option maxRecDepth 20000 in
theorem dX4_taster_38 : decode cX4_taster 38 = .ok (.aload_n 0, 1) := by decide +kernel
set_option maxRecDepth 20000 in
theorem dX4_taster_39 : decode cX4_taster 39 = .ok (.getfield 25, 3) := by decide +kernel
set_option maxRecDepth 20000 in
theorem dX4_taster_42 : decode cX4_taster 42 = .ok (.iload_n 1, 1) := by decide +kernel
set_option maxRecDepth 20000 in
theorem dX4_taster_43 : decode cX4_taster 43 = .ok (.invokevirtual 102, 3) := by decide +kernel
set_option maxRecDepth 20000 in
theorem dX4_taster_46 : decode cX4_taster 46 = .ok (.iload_n 2, 1) := by decide +kernel
set_option maxRecDepth 20000 in
theorem dX4_taster_47 : decode cX4_taster 47 = .ok (.invokestatic 112, 3) := by decide +kernel
set_option maxRecDepth 20000 in
theorem dX4_taster_50 : decode cX4_taster 50 = .ok (.ireturn, 1) := by decide +kernel
set_option maxRecDepth 20000 in
theorem dX4_cups_0 : decode cX4_cups 0 = .ok (.aload_n 0, 1) := by decide +kernel
set_option maxRecDepth 20000 in
theorem dX4_cups_1 : decode cX4_cups 1 = .ok (.iload_n 1, 1) := by decide +kernel
set_option maxRecDepth 20000 in
theorem dX4_cups_2 : decode cX4_cups 2 = .ok (.invokevirtual 106, 3) := by decide +kernel
set_option maxRecDepth 20000 in
theorem dX4_cups_5 : decode cX4_cups 5 = .ok (.ifCond .eq 20, 3) := by decide +kernel
set_option maxRecDepth 20000 in
theorem dX4_cups_8 : decode cX4_cups 8 = .ok (.iload_n 2, 1) := by decide +kernel
set_option maxRecDepth 20000 in
theorem dX4_cups_9 : decode cX4_cups 9 = .ok (.invokestatic 118, 3) := by decide +kernel
set_option maxRecDepth 20000 in
theorem dX4_cups_12 : decode cX4_cups 12 = .ok (.ifCond .eq 13, 3) := by decide +kernel
set_option maxRecDepth 20000 in
theorem dX4_cups_15 : decode cX4_cups 15 = .ok (.iload_n 3, 1) := by decide +kernel
set_option maxRecDepth 20000 in
theorem dX4_cups_16 : decode cX4_cups 16 = .ok (.iconst 0, 1) := by decide +kernel
set_option maxRecDepth 20000 in
theorem dX4_cups_17 : decode cX4_cups 17 = .ok (.bipush 99, 2) := by decide +kernel
set_option maxRecDepth 20000 in
theorem dX4_cups_19 : decode cX4_cups 19 = .ok (.invokestatic 55, 3) := by decide +kernel
set_option maxRecDepth 20000 in
theorem dX4_cups_22 : decode cX4_cups 22 = .ok (.ifCond .ne 5, 3) := by decide +kernel
set_option maxRecDepth 20000 in
theorem dX4_cups_25 : decode cX4_cups 25 = .ok (.iconst (-1), 1) := by decide +kernel
set_option maxRecDepth 20000 in
theorem dX4_cups_26 : decode cX4_cups 26 = .ok (.ireturn, 1) := by decide +kernel
set_option maxRecDepth 20000 in
theorem dX4_cups_27 : decode cX4_cups 27 = .ok (.aload_n 0, 1) := by decide +kernel
set_option maxRecDepth 20000 in
theorem dX4_cups_28 : decode cX4_cups 28 = .ok (.getfield 25, 3) := by decide +kernel
set_option maxRecDepth 20000 in
theorem dX4_cups_31 : decode cX4_cups 31 = .ok (.iload_n 1, 1) := by decide +kernel
set_option maxRecDepth 20000 in
theorem dX4_cups_32 : decode cX4_cups 32 = .ok (.invokevirtual 102, 3) := by decide +kernel
set_option maxRecDepth 20000 in
theorem dX4_cups_35 : decode cX4_cups 35 = .ok (.iload_n 2, 1) := by decide +kernel
set_option maxRecDepth 20000 in
theorem dX4_cups_36 : decode cX4_cups 36 = .ok (.iload_n 3, 1) := by decide +kernel
set_option maxRecDepth 20000 in
theorem dX4_cups_37 : decode cX4_cups 37 = .ok (.aload_n 0, 1) := by decide +kernel
set_option maxRecDepth 20000 in
theorem dX4_cups_38 : decode cX4_cups 38 = .ok (.getfield 34, 3) := by decide +kernel
set_option maxRecDepth 20000 in
theorem dX4_cups_41 : decode cX4_cups 41 = .ok (.getfield 121, 3) := by decide +kernel
set_option maxRecDepth 20000 in
theorem dX4_cups_44 : decode cX4_cups 44 = .ok (.invokestatic 122, 3) := by decide +kernel
set_option maxRecDepth 20000 in
theorem dX4_cups_47 : decode cX4_cups 47 = .ok (.ireturn, 1) := by decide +kernel
set_option maxRecDepth 20000 in
theorem dX4_weighs_0 : decode cX4_weighs 0 = .ok (.aload_n 0, 1) := by decide +kernel
set_option maxRecDepth 20000 in
theorem dX4_weighs_1 : decode cX4_weighs 1 = .ok (.iload_n 1, 1) := by decide +kernel
set_option maxRecDepth 20000 in
theorem dX4_weighs_2 : decode cX4_weighs 2 = .ok (.invokevirtual 106, 3) := by decide +kernel
set_option maxRecDepth 20000 in
theorem dX4_weighs_5 : decode cX4_weighs 5 = .ok (.ifCond .eq 11, 3) := by decide +kernel
set_option maxRecDepth 20000 in
theorem dX4_weighs_8 : decode cX4_weighs 8 = .ok (.aload_n 0, 1) := by decide +kernel
set_option maxRecDepth 20000 in
theorem dX4_weighs_9 : decode cX4_weighs 9 = .ok (.iload_n 2, 1) := by decide +kernel
set_option maxRecDepth 20000 in
theorem dX4_weighs_10 : decode cX4_weighs 10 = .ok (.invokevirtual 98, 3) := by decide +kernel
set_option maxRecDepth 20000 in
theorem dX4_weighs_13 : decode cX4_weighs 13 = .ok (.ifCond .ne 5, 3) := by decide +kernel
set_option maxRecDepth 20000 in
theorem dX4_weighs_16 : decode cX4_weighs 16 = .ok (.iconst (-1), 1) := by decide +kernel
set_option maxRecDepth 20000 in
theorem dX4_weighs_17 : decode cX4_weighs 17 = .ok (.ireturn, 1) := by decide +kernel
set_option maxRecDepth 20000 in
theorem dX4_weighs_18 : decode cX4_weighs 18 = .ok (.aload_n 0, 1) := by decide +kernel
set_option maxRecDepth 20000 in
theorem dX4_weighs_19 : decode cX4_weighs 19 = .ok (.invokevirtual 126, 3) := by decide +kernel
set_option maxRecDepth 20000 in
theorem dX4_weighs_22 : decode cX4_weighs 22 = .ok (.bipush 12, 2) := by decide +kernel
set_option maxRecDepth 20000 in
theorem dX4_weighs_24 : decode cX4_weighs 24 = .ok (.if_icmp .lt 6, 3) := by decide +kernel
set_option maxRecDepth 20000 in
theorem dX4_weighs_27 : decode cX4_weighs 27 = .ok (.bipush (-3), 2) := by decide +kernel
set_option maxRecDepth 20000 in
theorem dX4_weighs_29 : decode cX4_weighs 29 = .ok (.ireturn, 1) := by decide +kernel
set_option maxRecDepth 20000 in
theorem dX4_weighs_30 : decode cX4_weighs 30 = .ok (.aload_n 0, 1) := by decide +kernel
set_option maxRecDepth 20000 in
theorem dX4_weighs_31 : decode cX4_weighs 31 = .ok (.iload_n 1, 1) := by decide +kernel
set_option maxRecDepth 20000 in
theorem dX4_weighs_32 : decode cX4_weighs 32 = .ok (.iload_n 2, 1) := by decide +kernel
set_option maxRecDepth 20000 in
theorem dX4_weighs_33 : decode cX4_weighs 33 = .ok (.invokevirtual 129, 3) := by decide +kernel
set_option maxRecDepth 20000 in
theorem dX4_weighs_36 : decode cX4_weighs 36 = .ok (.istore_n 3, 1) := by decide +kernel
set_option maxRecDepth 20000 in
theorem dX4_weighs_37 : decode cX4_weighs 37 = .ok (.aload_n 0, 1) := by decide +kernel
set_option maxRecDepth 20000 in
theorem dX4_weighs_38 : decode cX4_weighs 38 = .ok (.iload_n 1, 1) := by decide +kernel
set_option maxRecDepth 20000 in
theorem dX4_weighs_39 : decode cX4_weighs 39 = .ok (.iload_n 2, 1) := by decide +kernel
set_option maxRecDepth 20000 in
theorem dX4_weighs_40 : decode cX4_weighs 40 = .ok (.iload_n 3, 1) := by decide +kernel
set_option maxRecDepth 20000 in
theorem dX4_weighs_41 : decode cX4_weighs 41 = .ok (.iconst 0, 1) := by decide +kernel
set_option maxRecDepth 20000 in
theorem dX4_weighs_42 : decode cX4_weighs 42 = .ok (.invokevirtual 132, 3) := by decide +kernel
set_option maxRecDepth 20000 in
theorem dX4_weighs_45 : decode cX4_weighs 45 = .ok (.aload_n 0, 1) := by decide +kernel
set_option maxRecDepth 20000 in
theorem dX4_weighs_46 : decode cX4_weighs 46 = .ok (.iload_n 1, 1) := by decide +kernel
set_option maxRecDepth 20000 in
theorem dX4_weighs_47 : decode cX4_weighs 47 = .ok (.invokevirtual 136, 3) := by decide +kernel
set_option maxRecDepth 20000 in
theorem dX4_weighs_50 : decode cX4_weighs 50 = .ok (.iload_n 3, 1) := by decide +kernel
set_option maxRecDepth 20000 in
theorem dX4_weighs_51 : decode cX4_weighs 51 = .ok (.ireturn, 1) := by decide +kernel
set_option maxRecDepth 20000 in
theorem dX4_says_0 : decode cX4_says 0 = .ok (.aload_n 0, 1) := by decide +kernel
set_option maxRecDepth 20000 in
theorem dX4_says_1 : decode cX4_says 1 = .ok (.iload_n 1, 1) := by decide +kernel
set_option maxRecDepth 20000 in
theorem dX4_says_2 : decode cX4_says 2 = .ok (.invokevirtual 106, 3) := by decide +kernel
set_option maxRecDepth 20000 in
theorem dX4_says_5 : decode cX4_says 5 = .ok (.ifCond .eq 21, 3) := by decide +kernel
set_option maxRecDepth 20000 in
theorem dX4_says_8 : decode cX4_says 8 = .ok (.aload_n 0, 1) := by decide +kernel
set_option maxRecDepth 20000 in
theorem dX4_says_9 : decode cX4_says 9 = .ok (.iload_n 2, 1) := by decide +kernel
set_option maxRecDepth 20000 in
theorem dX4_says_10 : decode cX4_says 10 = .ok (.invokevirtual 98, 3) := by decide +kernel
set_option maxRecDepth 20000 in
theorem dX4_says_13 : decode cX4_says 13 = .ok (.ifCond .eq 13, 3) := by decide +kernel
set_option maxRecDepth 20000 in
theorem dX4_says_16 : decode cX4_says 16 = .ok (.iload_n 3, 1) := by decide +kernel
set_option maxRecDepth 20000 in
theorem dX4_says_17 : decode cX4_says 17 = .ok (.iconst 0, 1) := by decide +kernel
set_option maxRecDepth 20000 in
theorem dX4_says_18 : decode cX4_says 18 = .ok (.bipush 99, 2) := by decide +kernel
set_option maxRecDepth 20000 in
theorem dX4_says_20 : decode cX4_says 20 = .ok (.invokestatic 55, 3) := by decide +kernel
set_option maxRecDepth 20000 in
theorem dX4_says_23 : decode cX4_says 23 = .ok (.ifCond .ne 5, 3) := by decide +kernel
set_option maxRecDepth 20000 in
theorem dX4_says_26 : decode cX4_says 26 = .ok (.iconst (-1), 1) := by decide +kernel
set_option maxRecDepth 20000 in
theorem dX4_says_27 : decode cX4_says 27 = .ok (.ireturn, 1) := by decide +kernel
set_option maxRecDepth 20000 in
theorem dX4_says_28 : decode cX4_says 28 = .ok (.aload_n 0, 1) := by decide +kernel
set_option maxRecDepth 20000 in
theorem dX4_says_29 : decode cX4_says 29 = .ok (.invokevirtual 126, 3) := by decide +kernel
set_option maxRecDepth 20000 in
theorem dX4_says_32 : decode cX4_says 32 = .ok (.bipush 12, 2) := by decide +kernel
set_option maxRecDepth 20000 in
theorem dX4_says_34 : decode cX4_says 34 = .ok (.if_icmp .lt 6, 3) := by decide +kernel
set_option maxRecDepth 20000 in
theorem dX4_says_37 : decode cX4_says 37 = .ok (.bipush (-3), 2) := by decide +kernel
set_option maxRecDepth 20000 in
theorem dX4_says_39 : decode cX4_says 39 = .ok (.ireturn, 1) := by decide +kernel
set_option maxRecDepth 20000 in
theorem dX4_says_40 : decode cX4_says 40 = .ok (.aload_n 0, 1) := by decide +kernel
set_option maxRecDepth 20000 in
theorem dX4_says_41 : decode cX4_says 41 = .ok (.iload_n 1, 1) := by decide +kernel
set_option maxRecDepth 20000 in
theorem dX4_says_42 : decode cX4_says 42 = .ok (.iload_n 2, 1) := by decide +kernel
set_option maxRecDepth 20000 in
theorem dX4_says_43 : decode cX4_says 43 = .ok (.iload_n 3, 1) := by decide +kernel
set_option maxRecDepth 20000 in
theorem dX4_says_44 : decode cX4_says 44 = .ok (.iconst 1, 1) := by decide +kernel
set_option maxRecDepth 20000 in
theorem dX4_says_45 : decode cX4_says 45 = .ok (.invokevirtual 132, 3) := by decide +kernel
set_option maxRecDepth 20000 in
theorem dX4_says_48 : decode cX4_says 48 = .ok (.aload_n 0, 1) := by decide +kernel
set_option maxRecDepth 20000 in
theorem dX4_says_49 : decode cX4_says 49 = .ok (.invokevirtual 126, 3) := by decide +kernel
set_option maxRecDepth 20000 in
theorem dX4_says_52 : decode cX4_says 52 = .ok (.ireturn, 1) := by decide +kernel
set_option maxRecDepth 20000 in
theorem dX4_jug_0 : decode cX4_jug 0 = .ok (.aload_n 0, 1) := by decide +kernel
set_option maxRecDepth 20000 in
theorem dX4_jug_1 : decode cX4_jug 1 = .ok (.iload_n 1, 1) := by decide +kernel
set_option maxRecDepth 20000 in
theorem dX4_jug_2 : decode cX4_jug 2 = .ok (.invokevirtual 106, 3) := by decide +kernel
set_option maxRecDepth 20000 in
theorem dX4_jug_5 : decode cX4_jug 5 = .ok (.ifCond .eq 24, 3) := by decide +kernel
set_option maxRecDepth 20000 in
theorem dX4_jug_8 : decode cX4_jug 8 = .ok (.aload_n 0, 1) := by decide +kernel
set_option maxRecDepth 20000 in
theorem dX4_jug_9 : decode cX4_jug 9 = .ok (.iload_n 2, 1) := by decide +kernel
set_option maxRecDepth 20000 in
theorem dX4_jug_10 : decode cX4_jug 10 = .ok (.invokevirtual 106, 3) := by decide +kernel
set_option maxRecDepth 20000 in
theorem dX4_jug_13 : decode cX4_jug 13 = .ok (.ifCond .eq 16, 3) := by decide +kernel
set_option maxRecDepth 20000 in
theorem dX4_jug_16 : decode cX4_jug 16 = .ok (.iload_n 1, 1) := by decide +kernel
set_option maxRecDepth 20000 in
theorem dX4_jug_17 : decode cX4_jug 17 = .ok (.iload_n 2, 1) := by decide +kernel
set_option maxRecDepth 20000 in
theorem dX4_jug_18 : decode cX4_jug 18 = .ok (.if_icmp .eq 11, 3) := by decide +kernel
set_option maxRecDepth 20000 in
theorem dX4_jug_21 : decode cX4_jug 21 = .ok (.aload_n 0, 1) := by decide +kernel
set_option maxRecDepth 20000 in
theorem dX4_jug_22 : decode cX4_jug 22 = .ok (.iload_n 3, 1) := by decide +kernel
set_option maxRecDepth 20000 in
theorem dX4_jug_23 : decode cX4_jug 23 = .ok (.invokevirtual 98, 3) := by decide +kernel
set_option maxRecDepth 20000 in
theorem dX4_jug_26 : decode cX4_jug 26 = .ok (.ifCond .ne 5, 3) := by decide +kernel
set_option maxRecDepth 20000 in
theorem dX4_jug_29 : decode cX4_jug 29 = .ok (.iconst (-1), 1) := by decide +kernel
set_option maxRecDepth 20000 in
theorem dX4_jug_30 : decode cX4_jug 30 = .ok (.ireturn, 1) := by decide +kernel
set_option maxRecDepth 20000 in
theorem dX4_jug_31 : decode cX4_jug 31 = .ok (.iload 4, 2) := by decide +kernel
set_option maxRecDepth 20000 in
theorem dX4_jug_33 : decode cX4_jug 33 = .ok (.iconst 0, 1) := by decide +kernel
set_option maxRecDepth 20000 in
theorem dX4_jug_34 : decode cX4_jug 34 = .ok (.sipush 999, 3) := by decide +kernel
set_option maxRecDepth 20000 in
theorem dX4_jug_37 : decode cX4_jug 37 = .ok (.invokestatic 55, 3) := by decide +kernel
set_option maxRecDepth 20000 in
theorem dX4_jug_40 : decode cX4_jug 40 = .ok (.ifCond .eq 13, 3) := by decide +kernel
set_option maxRecDepth 20000 in
theorem dX4_jug_43 : decode cX4_jug 43 = .ok (.iload 5, 2) := by decide +kernel
set_option maxRecDepth 20000 in
theorem dX4_jug_45 : decode cX4_jug 45 = .ok (.iconst 0, 1) := by decide +kernel
set_option maxRecDepth 20000 in
theorem dX4_jug_46 : decode cX4_jug 46 = .ok (.iconst 1, 1) := by decide +kernel
set_option maxRecDepth 20000 in
theorem dX4_jug_47 : decode cX4_jug 47 = .ok (.invokestatic 55, 3) := by decide +kernel
set_option maxRecDepth 20000 in
theorem dX4_jug_50 : decode cX4_jug 50 = .ok (.ifCond .ne 5, 3) := by decide +kernel
set_option maxRecDepth 20000 in
theorem dX4_jug_53 : decode cX4_jug 53 = .ok (.iconst (-1), 1) := by decide +kernel
set_option maxRecDepth 20000 in
theorem dX4_jug_54 : decode cX4_jug 54 = .ok (.ireturn, 1) := by decide +kernel
set_option maxRecDepth 20000 in
theorem dX4_jug_55 : decode cX4_jug 55 = .ok (.aload_n 0, 1) := by decide +kernel
set_option maxRecDepth 20000 in
theorem dX4_jug_56 : decode cX4_jug 56 = .ok (.iload_n 1, 1) := by decide +kernel
set_option maxRecDepth 20000 in
theorem dX4_jug_57 : decode cX4_jug 57 = .ok (.iload_n 3, 1) := by decide +kernel
set_option maxRecDepth 20000 in
theorem dX4_jug_58 : decode cX4_jug 58 = .ok (.invokevirtual 129, 3) := by decide +kernel
set_option maxRecDepth 20000 in
theorem dX4_jug_61 : decode cX4_jug 61 = .ok (.iload 4, 2) := by decide +kernel
set_option maxRecDepth 20000 in
theorem dX4_jug_63 : decode cX4_jug 63 = .ok (.invokestatic 139, 3) := by decide +kernel
set_option maxRecDepth 20000 in
theorem dX4_jug_66 : decode cX4_jug 66 = .ok (.istore 6, 2) := by decide +kernel
set_option maxRecDepth 20000 in
theorem dX4_jug_68 : decode cX4_jug 68 = .ok (.aload_n 0, 1) := by decide +kernel
set_option maxRecDepth 20000 in
theorem dX4_jug_69 : decode cX4_jug 69 = .ok (.iload_n 2, 1) := by decide +kernel
set_option maxRecDepth 20000 in
theorem dX4_jug_70 : decode cX4_jug 70 = .ok (.iload_n 3, 1) := by decide +kernel
set_option maxRecDepth 20000 in
theorem dX4_jug_71 : decode cX4_jug 71 = .ok (.invokevirtual 129, 3) := by decide +kernel
set_option maxRecDepth 20000 in
theorem dX4_jug_74 : decode cX4_jug 74 = .ok (.iload 4, 2) := by decide +kernel
set_option maxRecDepth 20000 in
theorem dX4_jug_76 : decode cX4_jug 76 = .ok (.iload 6, 2) := by decide +kernel
set_option maxRecDepth 20000 in
theorem dX4_jug_78 : decode cX4_jug 78 = .ok (.isub, 1) := by decide +kernel
set_option maxRecDepth 20000 in
theorem dX4_jug_79 : decode cX4_jug 79 = .ok (.invokestatic 139, 3) := by decide +kernel
set_option maxRecDepth 20000 in
theorem dX4_jug_82 : decode cX4_jug 82 = .ok (.istore 7, 2) := by decide +kernel
set_option maxRecDepth 20000 in
theorem dX4_jug_84 : decode cX4_jug 84 = .ok (.aload_n 0, 1) := by decide +kernel
set_option maxRecDepth 20000 in
theorem dX4_jug_85 : decode cX4_jug 85 = .ok (.iload_n 1, 1) := by decide +kernel
set_option maxRecDepth 20000 in
theorem dX4_jug_86 : decode cX4_jug 86 = .ok (.invokevirtual 136, 3) := by decide +kernel
set_option maxRecDepth 20000 in
theorem dX4_jug_89 : decode cX4_jug 89 = .ok (.aload_n 0, 1) := by decide +kernel
set_option maxRecDepth 20000 in
theorem dX4_jug_90 : decode cX4_jug 90 = .ok (.iload_n 2, 1) := by decide +kernel
set_option maxRecDepth 20000 in
theorem dX4_jug_91 : decode cX4_jug 91 = .ok (.invokevirtual 136, 3) := by decide +kernel
set_option maxRecDepth 20000 in
theorem dX4_jug_94 : decode cX4_jug 94 = .ok (.iload 5, 2) := by decide +kernel
set_option maxRecDepth 20000 in
theorem dX4_jug_96 : decode cX4_jug 96 = .ok (.ifCond .ne 11, 3) := by decide +kernel
set_option maxRecDepth 20000 in
theorem dX4_jug_99 : decode cX4_jug 99 = .ok (.iload 6, 2) := by decide +kernel
set_option maxRecDepth 20000 in
theorem dX4_jug_101 : decode cX4_jug 101 = .ok (.iload 7, 2) := by decide +kernel
set_option maxRecDepth 20000 in
theorem dX4_jug_103 : decode cX4_jug 103 = .ok (.iadd, 1) := by decide +kernel
set_option maxRecDepth 20000 in
theorem dX4_jug_104 : decode cX4_jug 104 = .ok (.goto 5, 3) := by decide +kernel
set_option maxRecDepth 20000 in
theorem dX4_jug_107 : decode cX4_jug 107 = .ok (.iload 7, 2) := by decide +kernel
set_option maxRecDepth 20000 in
theorem dX4_jug_109 : decode cX4_jug 109 = .ok (.ireturn, 1) := by decide +kernel
set_option maxRecDepth 20000 in
theorem dX4_night_0 : decode cX4_night 0 = .ok (.iconst 0, 1) := by decide +kernel
set_option maxRecDepth 20000 in
theorem dX4_night_1 : decode cX4_night 1 = .ok (.istore_n 1, 1) := by decide +kernel
set_option maxRecDepth 20000 in
theorem dX4_night_2 : decode cX4_night 2 = .ok (.iconst 0, 1) := by decide +kernel
set_option maxRecDepth 20000 in
theorem dX4_night_3 : decode cX4_night 3 = .ok (.istore_n 2, 1) := by decide +kernel
set_option maxRecDepth 20000 in
theorem dX4_night_4 : decode cX4_night 4 = .ok (.iload_n 2, 1) := by decide +kernel
set_option maxRecDepth 20000 in
theorem dX4_night_5 : decode cX4_night 5 = .ok (.aload_n 0, 1) := by decide +kernel
set_option maxRecDepth 20000 in
theorem dX4_night_6 : decode cX4_night 6 = .ok (.getfield 34, 3) := by decide +kernel
set_option maxRecDepth 20000 in
theorem dX4_night_9 : decode cX4_night 9 = .ok (.getfield 109, 3) := by decide +kernel
set_option maxRecDepth 20000 in
theorem dX4_night_12 : decode cX4_night 12 = .ok (.invokevirtual 62, 3) := by decide +kernel
set_option maxRecDepth 20000 in
theorem dX4_night_15 : decode cX4_night 15 = .ok (.if_icmp .ge 35, 3) := by decide +kernel
set_option maxRecDepth 20000 in
theorem dX4_night_18 : decode cX4_night 18 = .ok (.iload_n 1, 1) := by decide +kernel
set_option maxRecDepth 20000 in
theorem dX4_night_19 : decode cX4_night 19 = .ok (.aload_n 0, 1) := by decide +kernel
set_option maxRecDepth 20000 in
theorem dX4_night_20 : decode cX4_night 20 = .ok (.getfield 34, 3) := by decide +kernel
set_option maxRecDepth 20000 in
theorem dX4_night_23 : decode cX4_night 23 = .ok (.getfield 109, 3) := by decide +kernel
set_option maxRecDepth 20000 in
theorem dX4_night_26 : decode cX4_night 26 = .ok (.iload_n 2, 1) := by decide +kernel
set_option maxRecDepth 20000 in
theorem dX4_night_27 : decode cX4_night 27 = .ok (.invokevirtual 102, 3) := by decide +kernel
set_option maxRecDepth 20000 in
theorem dX4_night_30 : decode cX4_night 30 = .ok (.iadd, 1) := by decide +kernel
set_option maxRecDepth 20000 in
theorem dX4_night_31 : decode cX4_night 31 = .ok (.istore_n 1, 1) := by decide +kernel
set_option maxRecDepth 20000 in
theorem dX4_night_32 : decode cX4_night 32 = .ok (.aload_n 0, 1) := by decide +kernel
set_option maxRecDepth 20000 in
theorem dX4_night_33 : decode cX4_night 33 = .ok (.getfield 34, 3) := by decide +kernel
set_option maxRecDepth 20000 in
theorem dX4_night_36 : decode cX4_night 36 = .ok (.getfield 109, 3) := by decide +kernel
set_option maxRecDepth 20000 in
theorem dX4_night_39 : decode cX4_night 39 = .ok (.iload_n 2, 1) := by decide +kernel
set_option maxRecDepth 20000 in
theorem dX4_night_40 : decode cX4_night 40 = .ok (.iconst 0, 1) := by decide +kernel
set_option maxRecDepth 20000 in
theorem dX4_night_41 : decode cX4_night 41 = .ok (.invokevirtual 144, 3) := by decide +kernel
set_option maxRecDepth 20000 in
theorem dX4_night_44 : decode cX4_night 44 = .ok (.iinc 2 1, 3) := by decide +kernel
set_option maxRecDepth 20000 in
theorem dX4_night_47 : decode cX4_night 47 = .ok (.goto (-43), 3) := by decide +kernel
set_option maxRecDepth 20000 in
theorem dX4_night_50 : decode cX4_night 50 = .ok (.iload_n 1, 1) := by decide +kernel
set_option maxRecDepth 20000 in
theorem dX4_night_51 : decode cX4_night 51 = .ok (.ireturn, 1) := by decide +kernel
set_option maxRecDepth 20000 in
theorem dX4_heat_0 : decode cX4_heat 0 = .ok (.iload_n 1, 1) := by decide +kernel
set_option maxRecDepth 20000 in
theorem dX4_heat_1 : decode cX4_heat 1 = .ok (.iconst 0, 1) := by decide +kernel
set_option maxRecDepth 20000 in
theorem dX4_heat_2 : decode cX4_heat 2 = .ok (.bipush 9, 2) := by decide +kernel
set_option maxRecDepth 20000 in
theorem dX4_heat_4 : decode cX4_heat 4 = .ok (.invokestatic 55, 3) := by decide +kernel
set_option maxRecDepth 20000 in
theorem dX4_heat_7 : decode cX4_heat 7 = .ok (.ifCond .ne 5, 3) := by decide +kernel
set_option maxRecDepth 20000 in
theorem dX4_heat_10 : decode cX4_heat 10 = .ok (.iconst (-1), 1) := by decide +kernel
set_option maxRecDepth 20000 in
theorem dX4_heat_11 : decode cX4_heat 11 = .ok (.ireturn, 1) := by decide +kernel
set_option maxRecDepth 20000 in
theorem dX4_heat_12 : decode cX4_heat 12 = .ok (.aload_n 0, 1) := by decide +kernel
set_option maxRecDepth 20000 in
theorem dX4_heat_13 : decode cX4_heat 13 = .ok (.getfield 34, 3) := by decide +kernel
set_option maxRecDepth 20000 in
theorem dX4_heat_16 : decode cX4_heat 16 = .ok (.getfield 121, 3) := by decide +kernel
set_option maxRecDepth 20000 in
theorem dX4_heat_19 : decode cX4_heat 19 = .ok (.istore_n 2, 1) := by decide +kernel
set_option maxRecDepth 20000 in
theorem dX4_heat_20 : decode cX4_heat 20 = .ok (.aload_n 0, 1) := by decide +kernel
set_option maxRecDepth 20000 in
theorem dX4_heat_21 : decode cX4_heat 21 = .ok (.getfield 34, 3) := by decide +kernel
set_option maxRecDepth 20000 in
theorem dX4_heat_24 : decode cX4_heat 24 = .ok (.iload_n 1, 1) := by decide +kernel
set_option maxRecDepth 20000 in
theorem dX4_heat_25 : decode cX4_heat 25 = .ok (.putfield 121, 3) := by decide +kernel
set_option maxRecDepth 20000 in
theorem dX4_heat_28 : decode cX4_heat 28 = .ok (.iload_n 2, 1) := by decide +kernel
set_option maxRecDepth 20000 in
theorem dX4_heat_29 : decode cX4_heat 29 = .ok (.ireturn, 1) := by decide +kernel
set_option maxRecDepth 20000 in
theorem dX4_undo_0 : decode cX4_undo 0 = .ok (.aload_n 0, 1) := by decide +kernel
set_option maxRecDepth 20000 in
theorem dX4_undo_1 : decode cX4_undo 1 = .ok (.invokevirtual 126, 3) := by decide +kernel
set_option maxRecDepth 20000 in
theorem dX4_undo_4 : decode cX4_undo 4 = .ok (.ifCond .ne 6, 3) := by decide +kernel
set_option maxRecDepth 20000 in
theorem dX4_undo_7 : decode cX4_undo 7 = .ok (.bipush (-2), 2) := by decide +kernel
set_option maxRecDepth 20000 in
theorem dX4_undo_9 : decode cX4_undo 9 = .ok (.ireturn, 1) := by decide +kernel
set_option maxRecDepth 20000 in
theorem dX4_undo_10 : decode cX4_undo 10 = .ok (.aload_n 0, 1) := by decide +kernel
set_option maxRecDepth 20000 in
theorem dX4_undo_11 : decode cX4_undo 11 = .ok (.invokevirtual 126, 3) := by decide +kernel
set_option maxRecDepth 20000 in
theorem dX4_undo_14 : decode cX4_undo 14 = .ok (.iconst 1, 1) := by decide +kernel
set_option maxRecDepth 20000 in
theorem dX4_undo_15 : decode cX4_undo 15 = .ok (.isub, 1) := by decide +kernel
set_option maxRecDepth 20000 in
theorem dX4_undo_16 : decode cX4_undo 16 = .ok (.istore_n 1, 1) := by decide +kernel
set_option maxRecDepth 20000 in
theorem dX4_undo_17 : decode cX4_undo 17 = .ok (.aload_n 0, 1) := by decide +kernel
set_option maxRecDepth 20000 in
theorem dX4_undo_18 : decode cX4_undo 18 = .ok (.iload_n 1, 1) := by decide +kernel
set_option maxRecDepth 20000 in
theorem dX4_undo_19 : decode cX4_undo 19 = .ok (.iconst 0, 1) := by decide +kernel
set_option maxRecDepth 20000 in
theorem dX4_undo_20 : decode cX4_undo 20 = .ok (.invokevirtual 147, 3) := by decide +kernel
set_option maxRecDepth 20000 in
theorem dX4_undo_23 : decode cX4_undo 23 = .ok (.istore_n 2, 1) := by decide +kernel
set_option maxRecDepth 20000 in
theorem dX4_undo_24 : decode cX4_undo 24 = .ok (.aload_n 0, 1) := by decide +kernel
set_option maxRecDepth 20000 in
theorem dX4_undo_25 : decode cX4_undo 25 = .ok (.iload_n 1, 1) := by decide +kernel
set_option maxRecDepth 20000 in
theorem dX4_undo_26 : decode cX4_undo 26 = .ok (.iconst 5, 1) := by decide +kernel
set_option maxRecDepth 20000 in
theorem dX4_undo_27 : decode cX4_undo 27 = .ok (.invokevirtual 147, 3) := by decide +kernel
set_option maxRecDepth 20000 in
theorem dX4_undo_30 : decode cX4_undo 30 = .ok (.ifCond .ne 31, 3) := by decide +kernel
set_option maxRecDepth 20000 in
theorem dX4_undo_33 : decode cX4_undo 33 = .ok (.aload_n 0, 1) := by decide +kernel
set_option maxRecDepth 20000 in
theorem dX4_undo_34 : decode cX4_undo 34 = .ok (.getfield 34, 3) := by decide +kernel
set_option maxRecDepth 20000 in
theorem dX4_undo_37 : decode cX4_undo 37 = .ok (.getfield 109, 3) := by decide +kernel
set_option maxRecDepth 20000 in
theorem dX4_undo_40 : decode cX4_undo 40 = .ok (.iload_n 2, 1) := by decide +kernel
set_option maxRecDepth 20000 in
theorem dX4_undo_41 : decode cX4_undo 41 = .ok (.aload_n 0, 1) := by decide +kernel
set_option maxRecDepth 20000 in
theorem dX4_undo_42 : decode cX4_undo 42 = .ok (.getfield 34, 3) := by decide +kernel
set_option maxRecDepth 20000 in
theorem dX4_undo_45 : decode cX4_undo 45 = .ok (.getfield 109, 3) := by decide +kernel
set_option maxRecDepth 20000 in
theorem dX4_undo_48 : decode cX4_undo 48 = .ok (.iload_n 2, 1) := by decide +kernel
set_option maxRecDepth 20000 in
theorem dX4_undo_49 : decode cX4_undo 49 = .ok (.invokevirtual 102, 3) := by decide +kernel
set_option maxRecDepth 20000 in
theorem dX4_undo_52 : decode cX4_undo 52 = .ok (.iconst 1, 1) := by decide +kernel
set_option maxRecDepth 20000 in
theorem dX4_undo_53 : decode cX4_undo 53 = .ok (.isub, 1) := by decide +kernel
set_option maxRecDepth 20000 in
theorem dX4_undo_54 : decode cX4_undo 54 = .ok (.iconst 0, 1) := by decide +kernel
set_option maxRecDepth 20000 in
theorem dX4_undo_55 : decode cX4_undo 55 = .ok (.invokestatic 150, 3) := by decide +kernel
set_option maxRecDepth 20000 in
theorem dX4_undo_58 : decode cX4_undo 58 = .ok (.invokevirtual 144, 3) := by decide +kernel
set_option maxRecDepth 20000 in
theorem dX4_undo_61 : decode cX4_undo 61 = .ok (.aload_n 0, 1) := by decide +kernel
set_option maxRecDepth 20000 in
theorem dX4_undo_62 : decode cX4_undo 62 = .ok (.getfield 34, 3) := by decide +kernel
set_option maxRecDepth 20000 in
theorem dX4_undo_65 : decode cX4_undo 65 = .ok (.getfield 153, 3) := by decide +kernel
set_option maxRecDepth 20000 in
theorem dX4_undo_68 : decode cX4_undo 68 = .ok (.iload_n 1, 1) := by decide +kernel
set_option maxRecDepth 20000 in
theorem dX4_undo_69 : decode cX4_undo 69 = .ok (.bipush 6, 2) := by decide +kernel
set_option maxRecDepth 20000 in
theorem dX4_undo_71 : decode cX4_undo 71 = .ok (.imul, 1) := by decide +kernel
set_option maxRecDepth 20000 in
theorem dX4_undo_72 : decode cX4_undo 72 = .ok (.invokevirtual 71, 3) := by decide +kernel
set_option maxRecDepth 20000 in
theorem dX4_undo_75 : decode cX4_undo 75 = .ok (.aload_n 0, 1) := by decide +kernel
set_option maxRecDepth 20000 in
theorem dX4_undo_76 : decode cX4_undo 76 = .ok (.invokevirtual 126, 3) := by decide +kernel
set_option maxRecDepth 20000 in
theorem dX4_undo_79 : decode cX4_undo 79 = .ok (.ireturn, 1) := by decide +kernel
set_option maxRecDepth 20000 in
theorem dX4_known_0 : decode cX4_known 0 = .ok (.iload_n 1, 1) := by decide +kernel
set_option maxRecDepth 20000 in
theorem dX4_known_1 : decode cX4_known 1 = .ok (.iconst 0, 1) := by decide +kernel
set_option maxRecDepth 20000 in
theorem dX4_known_2 : decode cX4_known 2 = .ok (.aload_n 0, 1) := by decide +kernel
set_option maxRecDepth 20000 in
theorem dX4_known_3 : decode cX4_known 3 = .ok (.invokevirtual 126, 3) := by decide +kernel
set_option maxRecDepth 20000 in
theorem dX4_known_6 : decode cX4_known 6 = .ok (.iconst 1, 1) := by decide +kernel
set_option maxRecDepth 20000 in
theorem dX4_known_7 : decode cX4_known 7 = .ok (.isub, 1) := by decide +kernel
set_option maxRecDepth 20000 in
theorem dX4_known_8 : decode cX4_known 8 = .ok (.invokestatic 55, 3) := by decide +kernel
set_option maxRecDepth 20000 in
theorem dX4_known_11 : decode cX4_known 11 = .ok (.ifCond .eq 12, 3) := by decide +kernel
set_option maxRecDepth 20000 in
theorem dX4_known_14 : decode cX4_known 14 = .ok (.iload_n 2, 1) := by decide +kernel
set_option maxRecDepth 20000 in
theorem dX4_known_15 : decode cX4_known 15 = .ok (.iconst 0, 1) := by decide +kernel
set_option maxRecDepth 20000 in
theorem dX4_known_16 : decode cX4_known 16 = .ok (.iconst 5, 1) := by decide +kernel
set_option maxRecDepth 20000 in
theorem dX4_known_17 : decode cX4_known 17 = .ok (.invokestatic 55, 3) := by decide +kernel
set_option maxRecDepth 20000 in
theorem dX4_known_20 : decode cX4_known 20 = .ok (.ifCond .ne 5, 3) := by decide +kernel
set_option maxRecDepth 20000 in
theorem dX4_known_23 : decode cX4_known 23 = .ok (.iconst (-1), 1) := by decide +kernel
set_option maxRecDepth 20000 in
theorem dX4_known_24 : decode cX4_known 24 = .ok (.ireturn, 1) := by decide +kernel
set_option maxRecDepth 20000 in
theorem dX4_known_25 : decode cX4_known 25 = .ok (.aload_n 0, 1) := by decide +kernel
set_option maxRecDepth 20000 in
theorem dX4_known_26 : decode cX4_known 26 = .ok (.iload_n 1, 1) := by decide +kernel
set_option maxRecDepth 20000 in
theorem dX4_known_27 : decode cX4_known 27 = .ok (.iload_n 2, 1) := by decide +kernel
set_option maxRecDepth 20000 in
theorem dX4_known_28 : decode cX4_known 28 = .ok (.invokevirtual 147, 3) := by decide +kernel
set_option maxRecDepth 20000 in
theorem dX4_known_31 : decode cX4_known 31 = .ok (.ireturn, 1) := by decide +kernel
set_option maxRecDepth 20000 in
theorem dX4_canBe_0 : decode cX4_canBe 0 = .ok (.aload_n 0, 1) := by decide +kernel
set_option maxRecDepth 20000 in
theorem dX4_canBe_1 : decode cX4_canBe 1 = .ok (.iload_n 1, 1) := by decide +kernel
set_option maxRecDepth 20000 in
theorem dX4_canBe_2 : decode cX4_canBe 2 = .ok (.invokevirtual 98, 3) := by decide +kernel
set_option maxRecDepth 20000 in
theorem dX4_canBe_5 : decode cX4_canBe 5 = .ok (.ifCond .eq 12, 3) := by decide +kernel
set_option maxRecDepth 20000 in
theorem dX4_canBe_8 : decode cX4_canBe 8 = .ok (.iload_n 2, 1) := by decide +kernel
set_option maxRecDepth 20000 in
theorem dX4_canBe_9 : decode cX4_canBe 9 = .ok (.iconst 0, 1) := by decide +kernel
set_option maxRecDepth 20000 in
theorem dX4_canBe_10 : decode cX4_canBe 10 = .ok (.iconst 2, 1) := by decide +kernel
set_option maxRecDepth 20000 in
theorem dX4_canBe_11 : decode cX4_canBe 11 = .ok (.invokestatic 55, 3) := by decide +kernel
set_option maxRecDepth 20000 in
theorem dX4_canBe_14 : decode cX4_canBe 14 = .ok (.ifCond .ne 5, 3) := by decide +kernel
set_option maxRecDepth 20000 in
theorem dX4_canBe_17 : decode cX4_canBe 17 = .ok (.iconst (-1), 1) := by decide +kernel
set_option maxRecDepth 20000 in
theorem dX4_canBe_18 : decode cX4_canBe 18 = .ok (.ireturn, 1) := by decide +kernel
set_option maxRecDepth 20000 in
theorem dX4_canBe_19 : decode cX4_canBe 19 = .ok (.iload_n 2, 1) := by decide +kernel
set_option maxRecDepth 20000 in
theorem dX4_canBe_20 : decode cX4_canBe 20 = .ok (.ifCond .ne 17, 3) := by decide +kernel
set_option maxRecDepth 20000 in
theorem dX4_canBe_23 : decode cX4_canBe 23 = .ok (.aload_n 0, 1) := by decide +kernel
set_option maxRecDepth 20000 in
theorem dX4_canBe_24 : decode cX4_canBe 24 = .ok (.iload_n 1, 1) := by decide +kernel
set_option maxRecDepth 20000 in
theorem dX4_canBe_25 : decode cX4_canBe 25 = .ok (.invokevirtual 155, 3) := by decide +kernel
set_option maxRecDepth 20000 in
theorem dX4_canBe_28 : decode cX4_canBe 28 = .ok (.aload_n 0, 1) := by decide +kernel
set_option maxRecDepth 20000 in
theorem dX4_canBe_29 : decode cX4_canBe 29 = .ok (.iload_n 1, 1) := by decide +kernel
set_option maxRecDepth 20000 in
theorem dX4_canBe_30 : decode cX4_canBe 30 = .ok (.invokevirtual 158, 3) := by decide +kernel
set_option maxRecDepth 20000 in
theorem dX4_canBe_33 : decode cX4_canBe 33 = .ok (.isub, 1) := by decide +kernel
set_option maxRecDepth 20000 in
theorem dX4_canBe_34 : decode cX4_canBe 34 = .ok (.iconst 1, 1) := by decide +kernel
set_option maxRecDepth 20000 in
theorem dX4_canBe_35 : decode cX4_canBe 35 = .ok (.iadd, 1) := by decide +kernel
set_option maxRecDepth 20000 in
theorem dX4_canBe_36 : decode cX4_canBe 36 = .ok (.ireturn, 1) := by decide +kernel
set_option maxRecDepth 20000 in
theorem dX4_canBe_37 : decode cX4_canBe 37 = .ok (.iload_n 2, 1) := by decide +kernel
set_option maxRecDepth 20000 in
theorem dX4_canBe_38 : decode cX4_canBe 38 = .ok (.iconst 1, 1) := by decide +kernel
set_option maxRecDepth 20000 in
theorem dX4_canBe_39 : decode cX4_canBe 39 = .ok (.if_icmp .ne 11, 3) := by decide +kernel
set_option maxRecDepth 20000 in
theorem dX4_canBe_42 : decode cX4_canBe 42 = .ok (.aload_n 0, 1) := by decide +kernel
set_option maxRecDepth 20000 in
theorem dX4_canBe_43 : decode cX4_canBe 43 = .ok (.iload_n 1, 1) := by decide +kernel
set_option maxRecDepth 20000 in
theorem dX4_canBe_44 : decode cX4_canBe 44 = .ok (.invokevirtual 158, 3) := by decide +kernel
set_option maxRecDepth 20000 in
theorem dX4_canBe_47 : decode cX4_canBe 47 = .ok (.goto 8, 3) := by decide +kernel
set_option maxRecDepth 20000 in
theorem dX4_canBe_50 : decode cX4_canBe 50 = .ok (.aload_n 0, 1) := by decide +kernel
set_option maxRecDepth 20000 in
theorem dX4_canBe_51 : decode cX4_canBe 51 = .ok (.iload_n 1, 1) := by decide +kernel
set_option maxRecDepth 20000 in
theorem dX4_canBe_52 : decode cX4_canBe 52 = .ok (.invokevirtual 155, 3) := by decide +kernel
set_option maxRecDepth 20000 in
theorem dX4_canBe_55 : decode cX4_canBe 55 = .ok (.ireturn, 1) := by decide +kernel
set_option maxRecDepth 20000 in
theorem dX4_next_0 : decode cX4_next 0 = .ok (.aload_n 0, 1) := by decide +kernel
set_option maxRecDepth 20000 in
theorem dX4_next_1 : decode cX4_next 1 = .ok (.iload_n 1, 1) := by decide +kernel
set_option maxRecDepth 20000 in
theorem dX4_next_2 : decode cX4_next 2 = .ok (.invokevirtual 98, 3) := by decide +kernel
set_option maxRecDepth 20000 in
theorem dX4_next_5 : decode cX4_next 5 = .ok (.ifCond .eq 12, 3) := by decide +kernel
set_option maxRecDepth 20000 in
theorem dX4_next_8 : decode cX4_next 8 = .ok (.iload_n 2, 1) := by decide +kernel
set_option maxRecDepth 20000 in
theorem dX4_next_9 : decode cX4_next 9 = .ok (.iconst 0, 1) := by decide +kernel
set_option maxRecDepth 20000 in
theorem dX4_next_10 : decode cX4_next 10 = .ok (.iconst 1, 1) := by decide +kernel
set_option maxRecDepth 20000 in
theorem dX4_next_11 : decode cX4_next 11 = .ok (.invokestatic 55, 3) := by decide +kernel
set_option maxRecDepth 20000 in
theorem dX4_next_14 : decode cX4_next 14 = .ok (.ifCond .ne 5, 3) := by decide +kernel
set_option maxRecDepth 20000 in
theorem dX4_next_17 : decode cX4_next 17 = .ok (.iconst (-1), 1) := by decide +kernel
set_option maxRecDepth 20000 in
theorem dX4_next_18 : decode cX4_next 18 = .ok (.ireturn, 1) := by decide +kernel
set_option maxRecDepth 20000 in
theorem dX4_next_19 : decode cX4_next 19 = .ok (.aload_n 0, 1) := by decide +kernel
set_option maxRecDepth 20000 in
theorem dX4_next_20 : decode cX4_next 20 = .ok (.iload_n 1, 1) := by decide +kernel
set_option maxRecDepth 20000 in
theorem dX4_next_21 : decode cX4_next 21 = .ok (.invokevirtual 158, 3) := by decide +kernel
set_option maxRecDepth 20000 in
theorem dX4_next_24 : decode cX4_next 24 = .ok (.istore_n 3, 1) := by decide +kernel
set_option maxRecDepth 20000 in
theorem dX4_next_25 : decode cX4_next 25 = .ok (.aload_n 0, 1) := by decide +kernel
set_option maxRecDepth 20000 in
theorem dX4_next_26 : decode cX4_next 26 = .ok (.iload_n 1, 1) := by decide +kernel
set_option maxRecDepth 20000 in
theorem dX4_next_27 : decode cX4_next 27 = .ok (.invokevirtual 155, 3) := by decide +kernel
set_option maxRecDepth 20000 in
theorem dX4_next_30 : decode cX4_next 30 = .ok (.istore 4, 2) := by decide +kernel
set_option maxRecDepth 20000 in
theorem dX4_next_32 : decode cX4_next 32 = .ok (.bipush (-9), 2) := by decide +kernel
set_option maxRecDepth 20000 in
theorem dX4_next_34 : decode cX4_next 34 = .ok (.istore 5, 2) := by decide +kernel
set_option maxRecDepth 20000 in
theorem dX4_next_36 : decode cX4_next 36 = .ok (.bipush (-9), 2) := by decide +kernel
set_option maxRecDepth 20000 in
theorem dX4_next_38 : decode cX4_next 38 = .ok (.istore 6, 2) := by decide +kernel
set_option maxRecDepth 20000 in
theorem dX4_next_40 : decode cX4_next 40 = .ok (.iconst 0, 1) := by decide +kernel
set_option maxRecDepth 20000 in
theorem dX4_next_41 : decode cX4_next 41 = .ok (.istore 7, 2) := by decide +kernel
set_option maxRecDepth 20000 in
theorem dX4_next_43 : decode cX4_next 43 = .ok (.iload 7, 2) := by decide +kernel
set_option maxRecDepth 20000 in
theorem dX4_next_45 : decode cX4_next 45 = .ok (.aload_n 0, 1) := by decide +kernel
set_option maxRecDepth 20000 in
theorem dX4_next_46 : decode cX4_next 46 = .ok (.getfield 25, 3) := by decide +kernel
set_option maxRecDepth 20000 in
theorem dX4_next_49 : decode cX4_next 49 = .ok (.invokevirtual 62, 3) := by decide +kernel
set_option maxRecDepth 20000 in
theorem dX4_next_52 : decode cX4_next 52 = .ok (.if_icmp .ge 42, 3) := by decide +kernel
set_option maxRecDepth 20000 in
theorem dX4_next_55 : decode cX4_next 55 = .ok (.aload_n 0, 1) := by decide +kernel
set_option maxRecDepth 20000 in
theorem dX4_next_56 : decode cX4_next 56 = .ok (.iload 7, 2) := by decide +kernel
set_option maxRecDepth 20000 in
theorem dX4_next_58 : decode cX4_next 58 = .ok (.iload_n 3, 1) := by decide +kernel
set_option maxRecDepth 20000 in
theorem dX4_next_59 : decode cX4_next 59 = .ok (.iload 4, 2) := by decide +kernel
set_option maxRecDepth 20000 in
theorem dX4_next_61 : decode cX4_next 61 = .ok (.invokevirtual 161, 3) := by decide +kernel
set_option maxRecDepth 20000 in
theorem dX4_next_64 : decode cX4_next 64 = .ok (.istore 8, 2) := by decide +kernel
set_option maxRecDepth 20000 in
theorem dX4_next_66 : decode cX4_next 66 = .ok (.iload 5, 2) := by decide +kernel
set_option maxRecDepth 20000 in
theorem dX4_next_68 : decode cX4_next 68 = .ok (.bipush (-9), 2) := by decide +kernel
set_option maxRecDepth 20000 in
theorem dX4_next_70 : decode cX4_next 70 = .ok (.if_icmp .eq 10, 3) := by decide +kernel
set_option maxRecDepth 20000 in
theorem dX4_next_73 : decode cX4_next 73 = .ok (.iload 8, 2) := by decide +kernel
set_option maxRecDepth 20000 in
theorem dX4_next_75 : decode cX4_next 75 = .ok (.iload 6, 2) := by decide +kernel
set_option maxRecDepth 20000 in
theorem dX4_next_77 : decode cX4_next 77 = .ok (.if_icmp .ge 11, 3) := by decide +kernel
set_option maxRecDepth 20000 in
theorem dX4_next_80 : decode cX4_next 80 = .ok (.iload 7, 2) := by decide +kernel
set_option maxRecDepth 20000 in
theorem dX4_next_82 : decode cX4_next 82 = .ok (.istore 5, 2) := by decide +kernel
set_option maxRecDepth 20000 in
theorem dX4_next_84 : decode cX4_next 84 = .ok (.iload 8, 2) := by decide +kernel
set_option maxRecDepth 20000 in
theorem dX4_next_86 : decode cX4_next 86 = .ok (.istore 6, 2) := by decide +kernel
set_option maxRecDepth 20000 in
theorem dX4_next_88 : decode cX4_next 88 = .ok (.iinc 7 1, 3) := by decide +kernel
set_option maxRecDepth 20000 in
theorem dX4_next_91 : decode cX4_next 91 = .ok (.goto (-48), 3) := by decide +kernel
set_option maxRecDepth 20000 in
theorem dX4_next_94 : decode cX4_next 94 = .ok (.iload_n 2, 1) := by decide +kernel
set_option maxRecDepth 20000 in
theorem dX4_next_95 : decode cX4_next 95 = .ok (.ifCond .ne 8, 3) := by decide +kernel
set_option maxRecDepth 20000 in
theorem dX4_next_98 : decode cX4_next 98 = .ok (.iload 5, 2) := by decide +kernel
set_option maxRecDepth 20000 in
theorem dX4_next_100 : decode cX4_next 100 = .ok (.goto 5, 3) := by decide +kernel
set_option maxRecDepth 20000 in
theorem dX4_next_103 : decode cX4_next 103 = .ok (.iload 6, 2) := by decide +kernel
set_option maxRecDepth 20000 in
theorem dX4_next_105 : decode cX4_next 105 = .ok (.ireturn, 1) := by decide +kernel
set_option maxRecDepth 20000 in
theorem dX4_enough_0 : decode cX4_enough 0 = .ok (.aload_n 0, 1) := by decide +kernel
set_option maxRecDepth 20000 in
theorem dX4_enough_1 : decode cX4_enough 1 = .ok (.iload_n 1, 1) := by decide +kernel
set_option maxRecDepth 20000 in
theorem dX4_enough_2 : decode cX4_enough 2 = .ok (.invokevirtual 98, 3) := by decide +kernel
set_option maxRecDepth 20000 in
theorem dX4_enough_5 : decode cX4_enough 5 = .ok (.ifCond .eq 13, 3) := by decide +kernel
set_option maxRecDepth 20000 in
theorem dX4_enough_8 : decode cX4_enough 8 = .ok (.iload_n 2, 1) := by decide +kernel
set_option maxRecDepth 20000 in
theorem dX4_enough_9 : decode cX4_enough 9 = .ok (.iconst 1, 1) := by decide +kernel
set_option maxRecDepth 20000 in
theorem dX4_enough_10 : decode cX4_enough 10 = .ok (.bipush 61, 2) := by decide +kernel
set_option maxRecDepth 20000 in
theorem dX4_enough_12 : decode cX4_enough 12 = .ok (.invokestatic 55, 3) := by decide +kernel
set_option maxRecDepth 20000 in
theorem dX4_enough_15 : decode cX4_enough 15 = .ok (.ifCond .ne 5, 3) := by decide +kernel
set_option maxRecDepth 20000 in
theorem dX4_enough_18 : decode cX4_enough 18 = .ok (.iconst (-1), 1) := by decide +kernel
set_option maxRecDepth 20000 in
theorem dX4_enough_19 : decode cX4_enough 19 = .ok (.ireturn, 1) := by decide +kernel
set_option maxRecDepth 20000 in
theorem dX4_enough_20 : decode cX4_enough 20 = .ok (.aload_n 0, 1) := by decide +kernel
set_option maxRecDepth 20000 in
theorem dX4_enough_21 : decode cX4_enough 21 = .ok (.iload_n 1, 1) := by decide +kernel
set_option maxRecDepth 20000 in
theorem dX4_enough_22 : decode cX4_enough 22 = .ok (.invokevirtual 158, 3) := by decide +kernel
set_option maxRecDepth 20000 in
theorem dX4_enough_25 : decode cX4_enough 25 = .ok (.istore_n 3, 1) := by decide +kernel
set_option maxRecDepth 20000 in
theorem dX4_enough_26 : decode cX4_enough 26 = .ok (.aload_n 0, 1) := by decide +kernel
set_option maxRecDepth 20000 in
theorem dX4_enough_27 : decode cX4_enough 27 = .ok (.iload_n 1, 1) := by decide +kernel
set_option maxRecDepth 20000 in
theorem dX4_enough_28 : decode cX4_enough 28 = .ok (.invokevirtual 155, 3) := by decide +kernel
set_option maxRecDepth 20000 in
theorem dX4_enough_31 : decode cX4_enough 31 = .ok (.istore 4, 2) := by decide +kernel
set_option maxRecDepth 20000 in
theorem dX4_enough_33 : decode cX4_enough 33 = .ok (.iconst 0, 1) := by decide +kernel
set_option maxRecDepth 20000 in
theorem dX4_enough_34 : decode cX4_enough 34 = .ok (.istore 5, 2) := by decide +kernel
set_option maxRecDepth 20000 in
theorem dX4_enough_36 : decode cX4_enough 36 = .ok (.iload 5, 2) := by decide +kernel
set_option maxRecDepth 20000 in
theorem dX4_enough_38 : decode cX4_enough 38 = .ok (.iconst 3, 1) := by decide +kernel
set_option maxRecDepth 20000 in
theorem dX4_enough_39 : decode cX4_enough 39 = .ok (.if_icmp .gt 26, 3) := by decide +kernel
set_option maxRecDepth 20000 in
theorem dX4_enough_42 : decode cX4_enough 42 = .ok (.aload_n 0, 1) := by decide +kernel
set_option maxRecDepth 20000 in
theorem dX4_enough_43 : decode cX4_enough 43 = .ok (.iload_n 3, 1) := by decide +kernel
set_option maxRecDepth 20000 in
theorem dX4_enough_44 : decode cX4_enough 44 = .ok (.iload 4, 2) := by decide +kernel
set_option maxRecDepth 20000 in
theorem dX4_enough_46 : decode cX4_enough 46 = .ok (.iload_n 2, 1) := by decide +kernel
set_option maxRecDepth 20000 in
theorem dX4_enough_47 : decode cX4_enough 47 = .ok (.iload 5, 2) := by decide +kernel
set_option maxRecDepth 20000 in
theorem dX4_enough_49 : decode cX4_enough 49 = .ok (.iconst 0, 1) := by decide +kernel
set_option maxRecDepth 20000 in
theorem dX4_enough_50 : decode cX4_enough 50 = .ok (.invokevirtual 165, 3) := by decide +kernel
set_option maxRecDepth 20000 in
theorem dX4_enough_53 : decode cX4_enough 53 = .ok (.ifCond .eq 6, 3) := by decide +kernel
set_option maxRecDepth 20000 in
theorem dX4_enough_56 : decode cX4_enough 56 = .ok (.iload 5, 2) := by decide +kernel
set_option maxRecDepth 20000 in
theorem dX4_enough_58 : decode cX4_enough 58 = .ok (.ireturn, 1) := by decide +kernel
set_option maxRecDepth 20000 in
theorem dX4_enough_59 : decode cX4_enough 59 = .ok (.iinc 5 1, 3) := by decide +kernel
set_option maxRecDepth 20000 in
theorem dX4_enough_62 : decode cX4_enough 62 = .ok (.goto (-26), 3) := by decide +kernel
set_option maxRecDepth 20000 in
theorem dX4_enough_65 : decode cX4_enough 65 = .ok (.bipush (-9), 2) := by decide +kernel
set_option maxRecDepth 20000 in
theorem dX4_enough_67 : decode cX4_enough 67 = .ok (.ireturn, 1) := by decide +kernel
set_option maxRecDepth 20000 in
theorem dX4_heavier_0 : decode cX4_heavier 0 = .ok (.aload_n 0, 1) := by decide +kernel
set_option maxRecDepth 20000 in
theorem dX4_heavier_1 : decode cX4_heavier 1 = .ok (.iload_n 1, 1) := by decide +kernel
set_option maxRecDepth 20000 in
theorem dX4_heavier_2 : decode cX4_heavier 2 = .ok (.invokevirtual 98, 3) := by decide +kernel
set_option maxRecDepth 20000 in
theorem dX4_heavier_5 : decode cX4_heavier 5 = .ok (.ifCond .eq 16, 3) := by decide +kernel
set_option maxRecDepth 20000 in
theorem dX4_heavier_8 : decode cX4_heavier 8 = .ok (.aload_n 0, 1) := by decide +kernel
set_option maxRecDepth 20000 in
theorem dX4_heavier_9 : decode cX4_heavier 9 = .ok (.iload_n 2, 1) := by decide +kernel
set_option maxRecDepth 20000 in
theorem dX4_heavier_10 : decode cX4_heavier 10 = .ok (.invokevirtual 98, 3) := by decide +kernel
set_option maxRecDepth 20000 in
theorem dX4_heavier_13 : decode cX4_heavier 13 = .ok (.ifCond .eq 8, 3) := by decide +kernel
set_option maxRecDepth 20000 in
theorem dX4_heavier_16 : decode cX4_heavier 16 = .ok (.iload_n 1, 1) := by decide +kernel
set_option maxRecDepth 20000 in
theorem dX4_heavier_17 : decode cX4_heavier 17 = .ok (.iload_n 2, 1) := by decide +kernel
set_option maxRecDepth 20000 in
theorem dX4_heavier_18 : decode cX4_heavier 18 = .ok (.if_icmp .ne 5, 3) := by decide +kernel
set_option maxRecDepth 20000 in
theorem dX4_heavier_21 : decode cX4_heavier 21 = .ok (.iconst (-1), 1) := by decide +kernel
set_option maxRecDepth 20000 in
theorem dX4_heavier_22 : decode cX4_heavier 22 = .ok (.ireturn, 1) := by decide +kernel
set_option maxRecDepth 20000 in
theorem dX4_heavier_23 : decode cX4_heavier 23 = .ok (.aload_n 0, 1) := by decide +kernel
set_option maxRecDepth 20000 in
theorem dX4_heavier_24 : decode cX4_heavier 24 = .ok (.iload_n 1, 1) := by decide +kernel
set_option maxRecDepth 20000 in
theorem dX4_heavier_25 : decode cX4_heavier 25 = .ok (.invokevirtual 158, 3) := by decide +kernel
set_option maxRecDepth 20000 in
theorem dX4_heavier_28 : decode cX4_heavier 28 = .ok (.aload_n 0, 1) := by decide +kernel
set_option maxRecDepth 20000 in
theorem dX4_heavier_29 : decode cX4_heavier 29 = .ok (.iload_n 2, 1) := by decide +kernel
set_option maxRecDepth 20000 in
theorem dX4_heavier_30 : decode cX4_heavier 30 = .ok (.invokevirtual 155, 3) := by decide +kernel
set_option maxRecDepth 20000 in
theorem dX4_heavier_33 : decode cX4_heavier 33 = .ok (.if_icmp .le 5, 3) := by decide +kernel
set_option maxRecDepth 20000 in
theorem dX4_heavier_36 : decode cX4_heavier 36 = .ok (.iconst 1, 1) := by decide +kernel
set_option maxRecDepth 20000 in
theorem dX4_heavier_37 : decode cX4_heavier 37 = .ok (.ireturn, 1) := by decide +kernel
set_option maxRecDepth 20000 in
theorem dX4_heavier_38 : decode cX4_heavier 38 = .ok (.aload_n 0, 1) := by decide +kernel
set_option maxRecDepth 20000 in
theorem dX4_heavier_39 : decode cX4_heavier 39 = .ok (.iload_n 1, 1) := by decide +kernel
set_option maxRecDepth 20000 in
theorem dX4_heavier_40 : decode cX4_heavier 40 = .ok (.invokevirtual 155, 3) := by decide +kernel
set_option maxRecDepth 20000 in
theorem dX4_heavier_43 : decode cX4_heavier 43 = .ok (.aload_n 0, 1) := by decide +kernel
set_option maxRecDepth 20000 in
theorem dX4_heavier_44 : decode cX4_heavier 44 = .ok (.iload_n 2, 1) := by decide +kernel
set_option maxRecDepth 20000 in
theorem dX4_heavier_45 : decode cX4_heavier 45 = .ok (.invokevirtual 158, 3) := by decide +kernel
set_option maxRecDepth 20000 in
theorem dX4_heavier_48 : decode cX4_heavier 48 = .ok (.if_icmp .ge 8, 3) := by decide +kernel
set_option maxRecDepth 20000 in
theorem dX4_heavier_51 : decode cX4_heavier 51 = .ok (.bipush (-2), 2) := by decide +kernel
set_option maxRecDepth 20000 in
theorem dX4_heavier_53 : decode cX4_heavier 53 = .ok (.goto 4, 3) := by decide +kernel
set_option maxRecDepth 20000 in
theorem dX4_heavier_56 : decode cX4_heavier 56 = .ok (.iconst 0, 1) := by decide +kernel
set_option maxRecDepth 20000 in
theorem dX4_heavier_57 : decode cX4_heavier 57 = .ok (.ireturn, 1) := by decide +kernel
set_option maxRecDepth 20000 in
theorem dX4_told_0 : decode cX4_told 0 = .ok (.iload_n 1, 1) := by decide +kernel
set_option maxRecDepth 20000 in
theorem dX4_told_1 : decode cX4_told 1 = .ok (.iload_n 2, 1) := by decide +kernel
set_option maxRecDepth 20000 in
theorem dX4_told_2 : decode cX4_told 2 = .ok (.iload_n 3, 1) := by decide +kernel
set_option maxRecDepth 20000 in
theorem dX4_told_3 : decode cX4_told 3 = .ok (.invokestatic 169, 3) := by decide +kernel
set_option maxRecDepth 20000 in
theorem dX4_told_6 : decode cX4_told 6 = .ok (.ifCond .eq 15, 3) := by decide +kernel
set_option maxRecDepth 20000 in
theorem dX4_told_9 : decode cX4_told 9 = .ok (.iload 4, 2) := by decide +kernel
set_option maxRecDepth 20000 in
theorem dX4_told_11 : decode cX4_told 11 = .ok (.iconst 0, 1) := by decide +kernel
set_option maxRecDepth 20000 in
theorem dX4_told_12 : decode cX4_told 12 = .ok (.sipush 999, 3) := by decide +kernel
set_option maxRecDepth 20000 in
theorem dX4_told_15 : decode cX4_told 15 = .ok (.invokestatic 55, 3) := by decide +kernel
set_option maxRecDepth 20000 in
theorem dX4_told_18 : decode cX4_told 18 = .ok (.ifCond .ne 5, 3) := by decide +kernel
set_option maxRecDepth 20000 in
theorem dX4_told_21 : decode cX4_told 21 = .ok (.iconst (-1), 1) := by decide +kernel
set_option maxRecDepth 20000 in
theorem dX4_told_22 : decode cX4_told 22 = .ok (.ireturn, 1) := by decide +kernel
set_option maxRecDepth 20000 in
theorem dX4_told_23 : decode cX4_told 23 = .ok (.aload_n 0, 1) := by decide +kernel
set_option maxRecDepth 20000 in
theorem dX4_told_24 : decode cX4_told 24 = .ok (.invokevirtual 172, 3) := by decide +kernel
set_option maxRecDepth 20000 in
theorem dX4_told_27 : decode cX4_told 27 = .ok (.bipush 8, 2) := by decide +kernel
set_option maxRecDepth 20000 in
theorem dX4_told_29 : decode cX4_told 29 = .ok (.if_icmp .lt 6, 3) := by decide +kernel
set_option maxRecDepth 20000 in
theorem dX4_told_32 : decode cX4_told 32 = .ok (.bipush (-3), 2) := by decide +kernel
set_option maxRecDepth 20000 in
theorem dX4_told_34 : decode cX4_told 34 = .ok (.ireturn, 1) := by decide +kernel
set_option maxRecDepth 20000 in
theorem dX4_told_35 : decode cX4_told 35 = .ok (.aload_n 0, 1) := by decide +kernel
set_option maxRecDepth 20000 in
theorem dX4_told_36 : decode cX4_told 36 = .ok (.getfield 28, 3) := by decide +kernel
set_option maxRecDepth 20000 in
theorem dX4_told_39 : decode cX4_told 39 = .ok (.iload_n 1, 1) := by decide +kernel
set_option maxRecDepth 20000 in
theorem dX4_told_40 : decode cX4_told 40 = .ok (.invokevirtual 68, 3) := by decide +kernel
set_option maxRecDepth 20000 in
theorem dX4_told_43 : decode cX4_told 43 = .ok (.aload_n 0, 1) := by decide +kernel
set_option maxRecDepth 20000 in
theorem dX4_told_44 : decode cX4_told 44 = .ok (.getfield 28, 3) := by decide +kernel
set_option maxRecDepth 20000 in
theorem dX4_told_47 : decode cX4_told 47 = .ok (.iload_n 2, 1) := by decide +kernel
set_option maxRecDepth 20000 in
theorem dX4_told_48 : decode cX4_told 48 = .ok (.invokevirtual 68, 3) := by decide +kernel
set_option maxRecDepth 20000 in
theorem dX4_told_51 : decode cX4_told 51 = .ok (.aload_n 0, 1) := by decide +kernel
set_option maxRecDepth 20000 in
theorem dX4_told_52 : decode cX4_told 52 = .ok (.getfield 28, 3) := by decide +kernel
set_option maxRecDepth 20000 in
theorem dX4_told_55 : decode cX4_told 55 = .ok (.iload_n 3, 1) := by decide +kernel
set_option maxRecDepth 20000 in
theorem dX4_told_56 : decode cX4_told 56 = .ok (.invokevirtual 68, 3) := by decide +kernel
set_option maxRecDepth 20000 in
theorem dX4_told_59 : decode cX4_told 59 = .ok (.aload_n 0, 1) := by decide +kernel
set_option maxRecDepth 20000 in
theorem dX4_told_60 : decode cX4_told 60 = .ok (.getfield 28, 3) := by decide +kernel
set_option maxRecDepth 20000 in
theorem dX4_told_63 : decode cX4_told 63 = .ok (.iload 4, 2) := by decide +kernel
set_option maxRecDepth 20000 in
theorem dX4_told_65 : decode cX4_told 65 = .ok (.invokevirtual 68, 3) := by decide +kernel
set_option maxRecDepth 20000 in
theorem dX4_told_68 : decode cX4_told 68 = .ok (.aload_n 0, 1) := by decide +kernel
set_option maxRecDepth 20000 in
theorem dX4_told_69 : decode cX4_told 69 = .ok (.invokevirtual 172, 3) := by decide +kernel
set_option maxRecDepth 20000 in
theorem dX4_told_72 : decode cX4_told 72 = .ok (.ireturn, 1) := by decide +kernel
set_option maxRecDepth 20000 in
theorem dX4_forget_0 : decode cX4_forget 0 = .ok (.aload_n 0, 1) := by decide +kernel
set_option maxRecDepth 20000 in
theorem dX4_forget_1 : decode cX4_forget 1 = .ok (.invokevirtual 172, 3) := by decide +kernel
set_option maxRecDepth 20000 in
theorem dX4_forget_4 : decode cX4_forget 4 = .ok (.istore_n 1, 1) := by decide +kernel
set_option maxRecDepth 20000 in
theorem dX4_forget_5 : decode cX4_forget 5 = .ok (.aload_n 0, 1) := by decide +kernel
set_option maxRecDepth 20000 in
theorem dX4_forget_6 : decode cX4_forget 6 = .ok (.getfield 28, 3) := by decide +kernel
set_option maxRecDepth 20000 in
theorem dX4_forget_9 : decode cX4_forget 9 = .ok (.iconst 0, 1) := by decide +kernel
set_option maxRecDepth 20000 in
theorem dX4_forget_10 : decode cX4_forget 10 = .ok (.invokevirtual 71, 3) := by decide +kernel
set_option maxRecDepth 20000 in
theorem dX4_forget_13 : decode cX4_forget 13 = .ok (.iload_n 1, 1) := by decide +kernel
set_option maxRecDepth 20000 in
theorem dX4_forget_14 : decode cX4_forget 14 = .ok (.ireturn, 1) := by decide +kernel
set_option maxRecDepth 20000 in
theorem dX4_learnt_0 : decode cX4_learnt 0 = .ok (.iload_n 1, 1) := by decide +kernel
set_option maxRecDepth 20000 in
theorem dX4_learnt_1 : decode cX4_learnt 1 = .ok (.iconst 0, 1) := by decide +kernel
set_option maxRecDepth 20000 in
theorem dX4_learnt_2 : decode cX4_learnt 2 = .ok (.iconst 4, 1) := by decide +kernel
set_option maxRecDepth 20000 in
theorem dX4_learnt_3 : decode cX4_learnt 3 = .ok (.invokestatic 55, 3) := by decide +kernel
set_option maxRecDepth 20000 in
theorem dX4_learnt_6 : decode cX4_learnt 6 = .ok (.ifCond .ne 5, 3) := by decide +kernel
set_option maxRecDepth 20000 in
theorem dX4_learnt_9 : decode cX4_learnt 9 = .ok (.iconst (-1), 1) := by decide +kernel
set_option maxRecDepth 20000 in
theorem dX4_learnt_10 : decode cX4_learnt 10 = .ok (.ireturn, 1) := by decide +kernel
set_option maxRecDepth 20000 in
theorem dX4_learnt_11 : decode cX4_learnt 11 = .ok (.iconst 0, 1) := by decide +kernel
set_option maxRecDepth 20000 in
theorem dX4_learnt_12 : decode cX4_learnt 12 = .ok (.istore_n 2, 1) := by decide +kernel
set_option maxRecDepth 20000 in
theorem dX4_learnt_13 : decode cX4_learnt 13 = .ok (.iconst 0, 1) := by decide +kernel
set_option maxRecDepth 20000 in
theorem dX4_learnt_14 : decode cX4_learnt 14 = .ok (.istore_n 3, 1) := by decide +kernel
set_option maxRecDepth 20000 in
theorem dX4_learnt_15 : decode cX4_learnt 15 = .ok (.iload_n 3, 1) := by decide +kernel
set_option maxRecDepth 20000 in
theorem dX4_learnt_16 : decode cX4_learnt 16 = .ok (.sipush 3240, 3) := by decide +kernel
set_option maxRecDepth 20000 in
theorem dX4_learnt_19 : decode cX4_learnt 19 = .ok (.if_icmp .ge 32, 3) := by decide +kernel
set_option maxRecDepth 20000 in
theorem dX4_learnt_22 : decode cX4_learnt 22 = .ok (.aload_n 0, 1) := by decide +kernel
set_option maxRecDepth 20000 in
theorem dX4_learnt_23 : decode cX4_learnt 23 = .ok (.iload_n 3, 1) := by decide +kernel
set_option maxRecDepth 20000 in
theorem dX4_learnt_24 : decode cX4_learnt 24 = .ok (.invokevirtual 175, 3) := by decide +kernel
set_option maxRecDepth 20000 in
theorem dX4_learnt_27 : decode cX4_learnt 27 = .ok (.ifCond .eq 18, 3) := by decide +kernel
set_option maxRecDepth 20000 in
theorem dX4_learnt_30 : decode cX4_learnt 30 = .ok (.iload_n 1, 1) := by decide +kernel
set_option maxRecDepth 20000 in
theorem dX4_learnt_31 : decode cX4_learnt 31 = .ok (.ifCond .le 11, 3) := by decide +kernel
set_option maxRecDepth 20000 in
theorem dX4_learnt_34 : decode cX4_learnt 34 = .ok (.iload_n 3, 1) := by decide +kernel
set_option maxRecDepth 20000 in
theorem dX4_learnt_35 : decode cX4_learnt 35 = .ok (.iload_n 1, 1) := by decide +kernel
set_option maxRecDepth 20000 in
theorem dX4_learnt_36 : decode cX4_learnt 36 = .ok (.iconst 1, 1) := by decide +kernel
set_option maxRecDepth 20000 in
theorem dX4_learnt_37 : decode cX4_learnt 37 = .ok (.isub, 1) := by decide +kernel
set_option maxRecDepth 20000 in
theorem dX4_learnt_38 : decode cX4_learnt 38 = .ok (.invokestatic 112, 3) := by decide +kernel
set_option maxRecDepth 20000 in
theorem dX4_learnt_41 : decode cX4_learnt 41 = .ok (.ireturn, 1) := by decide +kernel
set_option maxRecDepth 20000 in
theorem dX4_learnt_42 : decode cX4_learnt 42 = .ok (.iinc 2 1, 3) := by decide +kernel
set_option maxRecDepth 20000 in
theorem dX4_learnt_45 : decode cX4_learnt 45 = .ok (.iinc 3 1, 3) := by decide +kernel
set_option maxRecDepth 20000 in
theorem dX4_learnt_48 : decode cX4_learnt 48 = .ok (.goto (-33), 3) := by decide +kernel
set_option maxRecDepth 20000 in
theorem dX4_learnt_51 : decode cX4_learnt 51 = .ok (.iload_n 1, 1) := by decide +kernel
set_option maxRecDepth 20000 in
theorem dX4_learnt_52 : decode cX4_learnt 52 = .ok (.ifCond .ne 7, 3) := by decide +kernel
set_option maxRecDepth 20000 in
theorem dX4_learnt_55 : decode cX4_learnt 55 = .ok (.iload_n 2, 1) := by decide +kernel
set_option maxRecDepth 20000 in
theorem dX4_learnt_56 : decode cX4_learnt 56 = .ok (.goto 5, 3) := by decide +kernel
set_option maxRecDepth 20000 in
theorem dX4_learnt_59 : decode cX4_learnt 59 = .ok (.bipush (-9), 2) := by decide +kernel
set_option maxRecDepth 20000 in
theorem dX4_learnt_61 : decode cX4_learnt 61 = .ok (.ireturn, 1) := by decide +kernel
set_option maxRecDepth 20000 in
theorem dX4_may_0 : decode cX4_may 0 = .ok (.iload_n 1, 1) := by decide +kernel
set_option maxRecDepth 20000 in
theorem dX4_may_1 : decode cX4_may 1 = .ok (.iload_n 2, 1) := by decide +kernel
set_option maxRecDepth 20000 in
theorem dX4_may_2 : decode cX4_may 2 = .ok (.iload_n 3, 1) := by decide +kernel
set_option maxRecDepth 20000 in
theorem dX4_may_3 : decode cX4_may 3 = .ok (.invokestatic 169, 3) := by decide +kernel
set_option maxRecDepth 20000 in
theorem dX4_may_6 : decode cX4_may 6 = .ok (.ifCond .eq 13, 3) := by decide +kernel
set_option maxRecDepth 20000 in
theorem dX4_may_9 : decode cX4_may 9 = .ok (.iload 4, 2) := by decide +kernel
set_option maxRecDepth 20000 in
theorem dX4_may_11 : decode cX4_may 11 = .ok (.iconst 0, 1) := by decide +kernel
set_option maxRecDepth 20000 in
theorem dX4_may_12 : decode cX4_may 12 = .ok (.iconst 1, 1) := by decide +kernel
set_option maxRecDepth 20000 in
theorem dX4_may_13 : decode cX4_may 13 = .ok (.invokestatic 55, 3) := by decide +kernel
set_option maxRecDepth 20000 in
theorem dX4_may_16 : decode cX4_may 16 = .ok (.ifCond .ne 5, 3) := by decide +kernel
set_option maxRecDepth 20000 in
theorem dX4_may_19 : decode cX4_may 19 = .ok (.iconst (-1), 1) := by decide +kernel
set_option maxRecDepth 20000 in
theorem dX4_may_20 : decode cX4_may 20 = .ok (.ireturn, 1) := by decide +kernel
set_option maxRecDepth 20000 in
theorem dX4_may_21 : decode cX4_may 21 = .ok (.bipush (-9), 2) := by decide +kernel
set_option maxRecDepth 20000 in
theorem dX4_may_23 : decode cX4_may 23 = .ok (.istore 5, 2) := by decide +kernel
set_option maxRecDepth 20000 in
theorem dX4_may_25 : decode cX4_may 25 = .ok (.bipush (-9), 2) := by decide +kernel
set_option maxRecDepth 20000 in
theorem dX4_may_27 : decode cX4_may 27 = .ok (.istore 6, 2) := by decide +kernel
set_option maxRecDepth 20000 in
theorem dX4_may_29 : decode cX4_may 29 = .ok (.iconst 0, 1) := by decide +kernel
set_option maxRecDepth 20000 in
theorem dX4_may_30 : decode cX4_may 30 = .ok (.istore 7, 2) := by decide +kernel
set_option maxRecDepth 20000 in
theorem dX4_may_32 : decode cX4_may 32 = .ok (.iload 7, 2) := by decide +kernel
set_option maxRecDepth 20000 in
theorem dX4_may_34 : decode cX4_may 34 = .ok (.sipush 3240, 3) := by decide +kernel
set_option maxRecDepth 20000 in
theorem dX4_may_37 : decode cX4_may 37 = .ok (.if_icmp .ge 58, 3) := by decide +kernel
set_option maxRecDepth 20000 in
theorem dX4_may_40 : decode cX4_may 40 = .ok (.aload_n 0, 1) := by decide +kernel
set_option maxRecDepth 20000 in
theorem dX4_may_41 : decode cX4_may 41 = .ok (.iload 7, 2) := by decide +kernel
set_option maxRecDepth 20000 in
theorem dX4_may_43 : decode cX4_may 43 = .ok (.invokevirtual 175, 3) := by decide +kernel
set_option maxRecDepth 20000 in
theorem dX4_may_46 : decode cX4_may 46 = .ok (.ifCond .eq 43, 3) := by decide +kernel
set_option maxRecDepth 20000 in
theorem dX4_may_49 : decode cX4_may 49 = .ok (.iload 7, 2) := by decide +kernel
set_option maxRecDepth 20000 in
theorem dX4_may_51 : decode cX4_may 51 = .ok (.iload_n 1, 1) := by decide +kernel
set_option maxRecDepth 20000 in
theorem dX4_may_52 : decode cX4_may 52 = .ok (.iload_n 2, 1) := by decide +kernel
set_option maxRecDepth 20000 in
theorem dX4_may_53 : decode cX4_may 53 = .ok (.iload_n 3, 1) := by decide +kernel
set_option maxRecDepth 20000 in
theorem dX4_may_54 : decode cX4_may 54 = .ok (.invokestatic 122, 3) := by decide +kernel
set_option maxRecDepth 20000 in
theorem dX4_may_57 : decode cX4_may 57 = .ok (.istore 8, 2) := by decide +kernel
set_option maxRecDepth 20000 in
theorem dX4_may_59 : decode cX4_may 59 = .ok (.iload 5, 2) := by decide +kernel
set_option maxRecDepth 20000 in
theorem dX4_may_61 : decode cX4_may 61 = .ok (.bipush (-9), 2) := by decide +kernel
set_option maxRecDepth 20000 in
theorem dX4_may_63 : decode cX4_may 63 = .ok (.if_icmp .ne 8, 3) := by decide +kernel
set_option maxRecDepth 20000 in
theorem dX4_may_66 : decode cX4_may 66 = .ok (.iload 8, 2) := by decide +kernel
set_option maxRecDepth 20000 in
theorem dX4_may_68 : decode cX4_may 68 = .ok (.goto 10, 3) := by decide +kernel
set_option maxRecDepth 20000 in
theorem dX4_may_71 : decode cX4_may 71 = .ok (.iload 5, 2) := by decide +kernel
set_option maxRecDepth 20000 in
theorem dX4_may_73 : decode cX4_may 73 = .ok (.iload 8, 2) := by decide +kernel
set_option maxRecDepth 20000 in
theorem dX4_may_75 : decode cX4_may 75 = .ok (.invokestatic 139, 3) := by decide +kernel
set_option maxRecDepth 20000 in
theorem dX4_may_78 : decode cX4_may 78 = .ok (.istore 5, 2) := by decide +kernel
set_option maxRecDepth 20000 in
theorem dX4_may_80 : decode cX4_may 80 = .ok (.iload 6, 2) := by decide +kernel
set_option maxRecDepth 20000 in
theorem dX4_may_82 : decode cX4_may 82 = .ok (.iload 8, 2) := by decide +kernel
set_option maxRecDepth 20000 in
theorem dX4_may_84 : decode cX4_may 84 = .ok (.invokestatic 150, 3) := by decide +kernel
set_option maxRecDepth 20000 in
theorem dX4_may_87 : decode cX4_may 87 = .ok (.istore 6, 2) := by decide +kernel
set_option maxRecDepth 20000 in
theorem dX4_may_89 : decode cX4_may 89 = .ok (.iinc 7 1, 3) := by decide +kernel
set_option maxRecDepth 20000 in
theorem dX4_may_92 : decode cX4_may 92 = .ok (.goto (-60), 3) := by decide +kernel
set_option maxRecDepth 20000 in
theorem dX4_may_95 : decode cX4_may 95 = .ok (.iload 4, 2) := by decide +kernel
set_option maxRecDepth 20000 in
theorem dX4_may_97 : decode cX4_may 97 = .ok (.ifCond .ne 8, 3) := by decide +kernel
set_option maxRecDepth 20000 in
theorem dX4_may_100 : decode cX4_may 100 = .ok (.iload 5, 2) := by decide +kernel
set_option maxRecDepth 20000 in
theorem dX4_may_102 : decode cX4_may 102 = .ok (.goto 5, 3) := by decide +kernel
set_option maxRecDepth 20000 in
theorem dX4_may_105 : decode cX4_may 105 = .ok (.iload 6, 2) := by decide +kernel
set_option maxRecDepth 20000 in
theorem dX4_may_107 : decode cX4_may 107 = .ok (.ireturn, 1) := by decide +kernel
set_option maxRecDepth 20000 in
theorem dX4_bribed_0 : decode cX4_bribed 0 = .ok (.iconst 0, 1) := by decide +kernel
set_option maxRecDepth 20000 in
theorem dX4_bribed_1 : decode cX4_bribed 1 = .ok (.istore_n 1, 1) := by decide +kernel
set_option maxRecDepth 20000 in
theorem dX4_bribed_2 : decode cX4_bribed 2 = .ok (.iconst 0, 1) := by decide +kernel
set_option maxRecDepth 20000 in
theorem dX4_bribed_3 : decode cX4_bribed 3 = .ok (.istore_n 2, 1) := by decide +kernel
set_option maxRecDepth 20000 in
theorem dX4_bribed_4 : decode cX4_bribed 4 = .ok (.iload_n 2, 1) := by decide +kernel
set_option maxRecDepth 20000 in
theorem dX4_bribed_5 : decode cX4_bribed 5 = .ok (.aload_n 0, 1) := by decide +kernel
set_option maxRecDepth 20000 in
theorem dX4_bribed_6 : decode cX4_bribed 6 = .ok (.invokevirtual 126, 3) := by decide +kernel
set_option maxRecDepth 20000 in
theorem dX4_bribed_9 : decode cX4_bribed 9 = .ok (.if_icmp .ge 71, 3) := by decide +kernel
set_option maxRecDepth 20000 in
theorem dX4_bribed_12 : decode cX4_bribed 12 = .ok (.aload_n 0, 1) := by decide +kernel
set_option maxRecDepth 20000 in
theorem dX4_bribed_13 : decode cX4_bribed 13 = .ok (.iload_n 2, 1) := by decide +kernel
set_option maxRecDepth 20000 in
theorem dX4_bribed_14 : decode cX4_bribed 14 = .ok (.iconst 5, 1) := by decide +kernel
set_option maxRecDepth 20000 in
theorem dX4_bribed_15 : decode cX4_bribed 15 = .ok (.invokevirtual 147, 3) := by decide +kernel
set_option maxRecDepth 20000 in
theorem dX4_bribed_18 : decode cX4_bribed 18 = .ok (.iconst 1, 1) := by decide +kernel
set_option maxRecDepth 20000 in
theorem dX4_bribed_19 : decode cX4_bribed 19 = .ok (.if_icmp .ne 7, 3) := by decide +kernel
set_option maxRecDepth 20000 in
theorem dX4_bribed_22 : decode cX4_bribed 22 = .ok (.iconst 1, 1) := by decide +kernel
set_option maxRecDepth 20000 in
theorem dX4_bribed_23 : decode cX4_bribed 23 = .ok (.goto 4, 3) := by decide +kernel
set_option maxRecDepth 20000 in
theorem dX4_bribed_26 : decode cX4_bribed 26 = .ok (.iconst 0, 1) := by decide +kernel
set_option maxRecDepth 20000 in
theorem dX4_bribed_27 : decode cX4_bribed 27 = .ok (.istore_n 3, 1) := by decide +kernel
set_option maxRecDepth 20000 in
theorem dX4_bribed_28 : decode cX4_bribed 28 = .ok (.aload_n 0, 1) := by decide +kernel
set_option maxRecDepth 20000 in
theorem dX4_bribed_29 : decode cX4_bribed 29 = .ok (.getfield 21, 3) := by decide +kernel
set_option maxRecDepth 20000 in
theorem dX4_bribed_32 : decode cX4_bribed 32 = .ok (.aload_n 0, 1) := by decide +kernel
set_option maxRecDepth 20000 in
theorem dX4_bribed_33 : decode cX4_bribed 33 = .ok (.iload_n 2, 1) := by decide +kernel
set_option maxRecDepth 20000 in
theorem dX4_bribed_34 : decode cX4_bribed 34 = .ok (.iconst 3, 1) := by decide +kernel
set_option maxRecDepth 20000 in
theorem dX4_bribed_35 : decode cX4_bribed 35 = .ok (.invokevirtual 147, 3) := by decide +kernel
set_option maxRecDepth 20000 in
theorem dX4_bribed_38 : decode cX4_bribed 38 = .ok (.invokevirtual 102, 3) := by decide +kernel
set_option maxRecDepth 20000 in
theorem dX4_bribed_41 : decode cX4_bribed 41 = .ok (.istore 4, 2) := by decide +kernel
set_option maxRecDepth 20000 in
theorem dX4_bribed_43 : decode cX4_bribed 43 = .ok (.iload_n 3, 1) := by decide +kernel
set_option maxRecDepth 20000 in
theorem dX4_bribed_44 : decode cX4_bribed 44 = .ok (.ifCond .eq 30, 3) := by decide +kernel
set_option maxRecDepth 20000 in
theorem dX4_bribed_47 : decode cX4_bribed 47 = .ok (.aload_n 0, 1) := by decide +kernel
set_option maxRecDepth 20000 in
theorem dX4_bribed_48 : decode cX4_bribed 48 = .ok (.iload_n 2, 1) := by decide +kernel
set_option maxRecDepth 20000 in
theorem dX4_bribed_49 : decode cX4_bribed 49 = .ok (.iload 4, 2) := by decide +kernel
set_option maxRecDepth 20000 in
theorem dX4_bribed_51 : decode cX4_bribed 51 = .ok (.invokevirtual 178, 3) := by decide +kernel
set_option maxRecDepth 20000 in
theorem dX4_bribed_54 : decode cX4_bribed 54 = .ok (.aload_n 0, 1) := by decide +kernel
set_option maxRecDepth 20000 in
theorem dX4_bribed_55 : decode cX4_bribed 55 = .ok (.iload_n 2, 1) := by decide +kernel
set_option maxRecDepth 20000 in
theorem dX4_bribed_56 : decode cX4_bribed 56 = .ok (.iconst 4, 1) := by decide +kernel
set_option maxRecDepth 20000 in
theorem dX4_bribed_57 : decode cX4_bribed 57 = .ok (.invokevirtual 147, 3) := by decide +kernel
set_option maxRecDepth 20000 in
theorem dX4_bribed_60 : decode cX4_bribed 60 = .ok (.if_icmp .eq 14, 3) := by decide +kernel
set_option maxRecDepth 20000 in
theorem dX4_bribed_63 : decode cX4_bribed 63 = .ok (.iload_n 1, 1) := by decide +kernel
set_option maxRecDepth 20000 in
theorem dX4_bribed_64 : decode cX4_bribed 64 = .ok (.iconst 1, 1) := by decide +kernel
set_option maxRecDepth 20000 in
theorem dX4_bribed_65 : decode cX4_bribed 65 = .ok (.aload_n 0, 1) := by decide +kernel
set_option maxRecDepth 20000 in
theorem dX4_bribed_66 : decode cX4_bribed 66 = .ok (.iload_n 2, 1) := by decide +kernel
set_option maxRecDepth 20000 in
theorem dX4_bribed_67 : decode cX4_bribed 67 = .ok (.iconst 0, 1) := by decide +kernel
set_option maxRecDepth 20000 in
theorem dX4_bribed_68 : decode cX4_bribed 68 = .ok (.invokevirtual 147, 3) := by decide +kernel
set_option maxRecDepth 20000 in
theorem dX4_bribed_71 : decode cX4_bribed 71 = .ok (.ishl, 1) := by decide +kernel
set_option maxRecDepth 20000 in
theorem dX4_bribed_72 : decode cX4_bribed 72 = .ok (.ior, 1) := by decide +kernel
set_option maxRecDepth 20000 in
theorem dX4_bribed_73 : decode cX4_bribed 73 = .ok (.istore_n 1, 1) := by decide +kernel
set_option maxRecDepth 20000 in
theorem dX4_bribed_74 : decode cX4_bribed 74 = .ok (.iinc 2 1, 3) := by decide +kernel
set_option maxRecDepth 20000 in
theorem dX4_bribed_77 : decode cX4_bribed 77 = .ok (.goto (-73), 3) := by decide +kernel
set_option maxRecDepth 20000 in
theorem dX4_bribed_80 : decode cX4_bribed 80 = .ok (.iload_n 1, 1) := by decide +kernel
set_option maxRecDepth 20000 in
theorem dX4_bribed_81 : decode cX4_bribed 81 = .ok (.ireturn, 1) := by decide +kernel
set_option maxRecDepth 20000 in
theorem dX4_memory_0 : decode cX4_memory 0 = .ok (.aload_n 0, 1) := by decide +kernel
set_option maxRecDepth 20000 in
theorem dX4_memory_1 : decode cX4_memory 1 = .ok (.iload_n 1, 1) := by decide +kernel
set_option maxRecDepth 20000 in
theorem dX4_memory_2 : decode cX4_memory 2 = .ok (.invokevirtual 106, 3) := by decide +kernel
set_option maxRecDepth 20000 in
theorem dX4_memory_5 : decode cX4_memory 5 = .ok (.ifCond .eq 14, 3) := by decide +kernel
set_option maxRecDepth 20000 in
theorem dX4_memory_8 : decode cX4_memory 8 = .ok (.iload_n 2, 1) := by decide +kernel
set_option maxRecDepth 20000 in
theorem dX4_memory_9 : decode cX4_memory 9 = .ok (.iconst 0, 1) := by decide +kernel
set_option maxRecDepth 20000 in
theorem dX4_memory_10 : decode cX4_memory 10 = .ok (.sipush 999, 3) := by decide +kernel
set_option maxRecDepth 20000 in
theorem dX4_memory_13 : decode cX4_memory 13 = .ok (.invokestatic 55, 3) := by decide +kernel
set_option maxRecDepth 20000 in
theorem dX4_memory_16 : decode cX4_memory 16 = .ok (.ifCond .ne 5, 3) := by decide +kernel
set_option maxRecDepth 20000 in
theorem dX4_memory_19 : decode cX4_memory 19 = .ok (.iconst (-1), 1) := by decide +kernel
set_option maxRecDepth 20000 in
theorem dX4_memory_20 : decode cX4_memory 20 = .ok (.ireturn, 1) := by decide +kernel
set_option maxRecDepth 20000 in
theorem dX4_memory_21 : decode cX4_memory 21 = .ok (.iload_n 3, 1) := by decide +kernel
set_option maxRecDepth 20000 in
theorem dX4_memory_22 : decode cX4_memory 22 = .ok (.iconst 0, 1) := by decide +kernel
set_option maxRecDepth 20000 in
theorem dX4_memory_23 : decode cX4_memory 23 = .ok (.bipush 20, 2) := by decide +kernel
set_option maxRecDepth 20000 in
theorem dX4_memory_25 : decode cX4_memory 25 = .ok (.invokestatic 55, 3) := by decide +kernel
set_option maxRecDepth 20000 in
theorem dX4_memory_28 : decode cX4_memory 28 = .ok (.ifCond .eq 13, 3) := by decide +kernel
set_option maxRecDepth 20000 in
theorem dX4_memory_31 : decode cX4_memory 31 = .ok (.iload 4, 2) := by decide +kernel
set_option maxRecDepth 20000 in
theorem dX4_memory_33 : decode cX4_memory 33 = .ok (.iconst 0, 1) := by decide +kernel
set_option maxRecDepth 20000 in
theorem dX4_memory_34 : decode cX4_memory 34 = .ok (.iconst 1, 1) := by decide +kernel
set_option maxRecDepth 20000 in
theorem dX4_memory_35 : decode cX4_memory 35 = .ok (.invokestatic 55, 3) := by decide +kernel
set_option maxRecDepth 20000 in
theorem dX4_memory_38 : decode cX4_memory 38 = .ok (.ifCond .ne 5, 3) := by decide +kernel
set_option maxRecDepth 20000 in
theorem dX4_memory_41 : decode cX4_memory 41 = .ok (.iconst (-1), 1) := by decide +kernel
set_option maxRecDepth 20000 in
theorem dX4_memory_42 : decode cX4_memory 42 = .ok (.ireturn, 1) := by decide +kernel
set_option maxRecDepth 20000 in
theorem dX4_memory_43 : decode cX4_memory 43 = .ok (.bipush (-9), 2) := by decide +kernel
set_option maxRecDepth 20000 in
theorem dX4_memory_45 : decode cX4_memory 45 = .ok (.istore 5, 2) := by decide +kernel
set_option maxRecDepth 20000 in
theorem dX4_memory_47 : decode cX4_memory 47 = .ok (.iconst 0, 1) := by decide +kernel
set_option maxRecDepth 20000 in
theorem dX4_memory_48 : decode cX4_memory 48 = .ok (.istore 6, 2) := by decide +kernel
set_option maxRecDepth 20000 in
theorem dX4_memory_50 : decode cX4_memory 50 = .ok (.iload 6, 2) := by decide +kernel
set_option maxRecDepth 20000 in
theorem dX4_memory_52 : decode cX4_memory 52 = .ok (.bipush 60, 2) := by decide +kernel
set_option maxRecDepth 20000 in
theorem dX4_memory_54 : decode cX4_memory 54 = .ok (.if_icmp .gt 60, 3) := by decide +kernel
set_option maxRecDepth 20000 in
theorem dX4_memory_57 : decode cX4_memory 57 = .ok (.aload_n 0, 1) := by decide +kernel
set_option maxRecDepth 20000 in
theorem dX4_memory_58 : decode cX4_memory 58 = .ok (.getfield 25, 3) := by decide +kernel
set_option maxRecDepth 20000 in
theorem dX4_memory_61 : decode cX4_memory 61 = .ok (.iload_n 1, 1) := by decide +kernel
set_option maxRecDepth 20000 in
theorem dX4_memory_62 : decode cX4_memory 62 = .ok (.invokevirtual 102, 3) := by decide +kernel
set_option maxRecDepth 20000 in
theorem dX4_memory_65 : decode cX4_memory 65 = .ok (.iload 6, 2) := by decide +kernel
set_option maxRecDepth 20000 in
theorem dX4_memory_67 : decode cX4_memory 67 = .ok (.iconst 0, 1) := by decide +kernel
set_option maxRecDepth 20000 in
theorem dX4_memory_68 : decode cX4_memory 68 = .ok (.aload_n 0, 1) := by decide +kernel
set_option maxRecDepth 20000 in
theorem dX4_memory_69 : decode cX4_memory 69 = .ok (.getfield 34, 3) := by decide +kernel
set_option maxRecDepth 20000 in
theorem dX4_memory_72 : decode cX4_memory 72 = .ok (.getfield 121, 3) := by decide +kernel
set_option maxRecDepth 20000 in
theorem dX4_memory_75 : decode cX4_memory 75 = .ok (.invokestatic 122, 3) := by decide +kernel
set_option maxRecDepth 20000 in
theorem dX4_memory_78 : decode cX4_memory 78 = .ok (.iload_n 2, 1) := by decide +kernel
set_option maxRecDepth 20000 in
theorem dX4_memory_79 : decode cX4_memory 79 = .ok (.isub, 1) := by decide +kernel
set_option maxRecDepth 20000 in
theorem dX4_memory_80 : decode cX4_memory 80 = .ok (.invokestatic 181, 3) := by decide +kernel
set_option maxRecDepth 20000 in
theorem dX4_memory_83 : decode cX4_memory 83 = .ok (.istore 7, 2) := by decide +kernel
set_option maxRecDepth 20000 in
theorem dX4_memory_85 : decode cX4_memory 85 = .ok (.iload 7, 2) := by decide +kernel
set_option maxRecDepth 20000 in
theorem dX4_memory_87 : decode cX4_memory 87 = .ok (.iload_n 3, 1) := by decide +kernel
set_option maxRecDepth 20000 in
theorem dX4_memory_88 : decode cX4_memory 88 = .ok (.if_icmp .gt 20, 3) := by decide +kernel
set_option maxRecDepth 20000 in
theorem dX4_memory_91 : decode cX4_memory 91 = .ok (.iload 4, 2) := by decide +kernel
set_option maxRecDepth 20000 in
theorem dX4_memory_93 : decode cX4_memory 93 = .ok (.iconst 1, 1) := by decide +kernel
set_option maxRecDepth 20000 in
theorem dX4_memory_94 : decode cX4_memory 94 = .ok (.if_icmp .eq 10, 3) := by decide +kernel
set_option maxRecDepth 20000 in
theorem dX4_memory_97 : decode cX4_memory 97 = .ok (.iload 5, 2) := by decide +kernel
set_option maxRecDepth 20000 in
theorem dX4_memory_99 : decode cX4_memory 99 = .ok (.bipush (-9), 2) := by decide +kernel
set_option maxRecDepth 20000 in
theorem dX4_memory_101 : decode cX4_memory 101 = .ok (.if_icmp .ne 7, 3) := by decide +kernel
set_option maxRecDepth 20000 in
theorem dX4_memory_104 : decode cX4_memory 104 = .ok (.iload 6, 2) := by decide +kernel
set_option maxRecDepth 20000 in
theorem dX4_memory_106 : decode cX4_memory 106 = .ok (.istore 5, 2) := by decide +kernel
set_option maxRecDepth 20000 in
theorem dX4_memory_108 : decode cX4_memory 108 = .ok (.iinc 6 1, 3) := by decide +kernel
set_option maxRecDepth 20000 in
theorem dX4_memory_111 : decode cX4_memory 111 = .ok (.goto (-61), 3) := by decide +kernel
set_option maxRecDepth 20000 in
theorem dX4_memory_114 : decode cX4_memory 114 = .ok (.iload 5, 2) := by decide +kernel
set_option maxRecDepth 20000 in
theorem dX4_memory_116 : decode cX4_memory 116 = .ok (.ireturn, 1) := by decide +kernel
set_option maxRecDepth 20000 in
theorem dX4_mark_0 : decode cX4_mark 0 = .ok (.aload_n 0, 1) := by decide +kernel
set_option maxRecDepth 20000 in
theorem dX4_mark_1 : decode cX4_mark 1 = .ok (.iload_n 2, 1) := by decide +kernel
set_option maxRecDepth 20000 in
theorem dX4_mark_2 : decode cX4_mark 2 = .ok (.invokevirtual 106, 3) := by decide +kernel
set_option maxRecDepth 20000 in
theorem dX4_mark_5 : decode cX4_mark 5 = .ok (.ifCond .ne 6, 3) := by decide +kernel
set_option maxRecDepth 20000 in
theorem dX4_mark_8 : decode cX4_mark 8 = .ok (.ldc 184, 2) := by decide +kernel
set_option maxRecDepth 20000 in
theorem dX4_mark_10 : decode cX4_mark 10 = .ok (.ireturn, 1) := by decide +kernel
set_option maxRecDepth 20000 in
theorem dX4_mark_11 : decode cX4_mark 11 = .ok (.iload_n 1, 1) := by decide +kernel
set_option maxRecDepth 20000 in
theorem dX4_mark_12 : decode cX4_mark 12 = .ok (.tableswitch 76 0 5 #[40, 46, 52, 58, 64, 70], 40) := by decide +kernel
set_option maxRecDepth 20000 in
theorem dX4_mark_52 : decode cX4_mark 52 = .ok (.aload_n 0, 1) := by decide +kernel
set_option maxRecDepth 20000 in
theorem dX4_mark_53 : decode cX4_mark 53 = .ok (.iload_n 2, 1) := by decide +kernel
set_option maxRecDepth 20000 in
theorem dX4_mark_54 : decode cX4_mark 54 = .ok (.invokevirtual 185, 3) := by decide +kernel
set_option maxRecDepth 20000 in
theorem dX4_mark_57 : decode cX4_mark 57 = .ok (.ireturn, 1) := by decide +kernel
set_option maxRecDepth 20000 in
theorem dX4_mark_58 : decode cX4_mark 58 = .ok (.aload_n 0, 1) := by decide +kernel
set_option maxRecDepth 20000 in
theorem dX4_mark_59 : decode cX4_mark 59 = .ok (.iload_n 2, 1) := by decide +kernel
set_option maxRecDepth 20000 in
theorem dX4_mark_60 : decode cX4_mark 60 = .ok (.invokevirtual 188, 3) := by decide +kernel
set_option maxRecDepth 20000 in
theorem dX4_mark_63 : decode cX4_mark 63 = .ok (.ireturn, 1) := by decide +kernel
set_option maxRecDepth 20000 in
theorem dX4_mark_64 : decode cX4_mark 64 = .ok (.aload_n 0, 1) := by decide +kernel
set_option maxRecDepth 20000 in
theorem dX4_mark_65 : decode cX4_mark 65 = .ok (.iload_n 2, 1) := by decide +kernel
set_option maxRecDepth 20000 in
theorem dX4_mark_66 : decode cX4_mark 66 = .ok (.invokevirtual 191, 3) := by decide +kernel
set_option maxRecDepth 20000 in
theorem dX4_mark_69 : decode cX4_mark 69 = .ok (.ireturn, 1) := by decide +kernel
set_option maxRecDepth 20000 in
theorem dX4_mark_70 : decode cX4_mark 70 = .ok (.aload_n 0, 1) := by decide +kernel
set_option maxRecDepth 20000 in
theorem dX4_mark_71 : decode cX4_mark 71 = .ok (.iload_n 2, 1) := by decide +kernel
set_option maxRecDepth 20000 in
theorem dX4_mark_72 : decode cX4_mark 72 = .ok (.invokevirtual 194, 3) := by decide +kernel
set_option maxRecDepth 20000 in
theorem dX4_mark_75 : decode cX4_mark 75 = .ok (.ireturn, 1) := by decide +kernel
set_option maxRecDepth 20000 in
theorem dX4_mark_76 : decode cX4_mark 76 = .ok (.aload_n 0, 1) := by decide +kernel
set_option maxRecDepth 20000 in
theorem dX4_mark_77 : decode cX4_mark 77 = .ok (.iload_n 2, 1) := by decide +kernel
set_option maxRecDepth 20000 in
theorem dX4_mark_78 : decode cX4_mark 78 = .ok (.invokevirtual 197, 3) := by decide +kernel
set_option maxRecDepth 20000 in
theorem dX4_mark_81 : decode cX4_mark 81 = .ok (.ireturn, 1) := by decide +kernel
set_option maxRecDepth 20000 in
theorem dX4_mark_82 : decode cX4_mark 82 = .ok (.aload_n 0, 1) := by decide +kernel
set_option maxRecDepth 20000 in
theorem dX4_mark_83 : decode cX4_mark 83 = .ok (.iload_n 2, 1) := by decide +kernel
set_option maxRecDepth 20000 in
theorem dX4_mark_84 : decode cX4_mark 84 = .ok (.invokevirtual 200, 3) := by decide +kernel
set_option maxRecDepth 20000 in
theorem dX4_mark_87 : decode cX4_mark 87 = .ok (.ireturn, 1) := by decide +kernel
set_option maxRecDepth 20000 in
theorem dX4_mark_88 : decode cX4_mark 88 = .ok (.ldc 184, 2) := by decide +kernel
set_option maxRecDepth 20000 in
theorem dX4_mark_90 : decode cX4_mark 90 = .ok (.ireturn, 1) := by decide +kernel
set_option maxRecDepth 20000 in
theorem dX4_keep_0 : decode cX4_keep 0 = .ok (.iload_n 1, 1) := by decide +kernel
set_option maxRecDepth 20000 in
theorem dX4_keep_1 : decode cX4_keep 1 = .ok (.iconst 0, 1) := by decide +kernel
set_option maxRecDepth 20000 in
theorem dX4_keep_2 : decode cX4_keep 2 = .ok (.iconst 1, 1) := by decide +kernel
set_option maxRecDepth 20000 in
theorem dX4_keep_3 : decode cX4_keep 3 = .ok (.invokestatic 55, 3) := by decide +kernel
set_option maxRecDepth 20000 in
theorem dX4_keep_6 : decode cX4_keep 6 = .ok (.ifCond .ne 5, 3) := by decide +kernel
set_option maxRecDepth 20000 in
theorem dX4_keep_9 : decode cX4_keep 9 = .ok (.iconst (-1), 1) := by decide +kernel
set_option maxRecDepth 20000 in
theorem dX4_keep_10 : decode cX4_keep 10 = .ok (.ireturn, 1) := by decide +kernel
set_option maxRecDepth 20000 in
theorem dX4_keep_11 : decode cX4_keep 11 = .ok (.aload_n 0, 1) := by decide +kernel
set_option maxRecDepth 20000 in
theorem dX4_keep_12 : decode cX4_keep 12 = .ok (.iload_n 1, 1) := by decide +kernel
set_option maxRecDepth 20000 in
theorem dX4_keep_13 : decode cX4_keep 13 = .ok (.invokevirtual 203, 3) := by decide +kernel
set_option maxRecDepth 20000 in
theorem dX4_keep_16 : decode cX4_keep 16 = .ok (.aload_n 0, 1) := by decide +kernel
set_option maxRecDepth 20000 in
theorem dX4_keep_17 : decode cX4_keep 17 = .ok (.getfield 34, 3) := by decide +kernel
set_option maxRecDepth 20000 in
theorem dX4_keep_20 : decode cX4_keep 20 = .ok (.invokevirtual 207, 3) := by decide +kernel
set_option maxRecDepth 20000 in
theorem dX4_keep_23 : decode cX4_keep 23 = .ok (.iload_n 1, 1) := by decide +kernel
set_option maxRecDepth 20000 in
theorem dX4_keep_24 : decode cX4_keep 24 = .ok (.ifCond .ne 11, 3) := by decide +kernel
set_option maxRecDepth 20000 in
theorem dX4_keep_27 : decode cX4_keep 27 = .ok (.aload_n 0, 1) := by decide +kernel
set_option maxRecDepth 20000 in
theorem dX4_keep_28 : decode cX4_keep 28 = .ok (.iconst 1, 1) := by decide +kernel
set_option maxRecDepth 20000 in
theorem dX4_keep_29 : decode cX4_keep 29 = .ok (.putfield 44, 3) := by decide +kernel
set_option maxRecDepth 20000 in
theorem dX4_keep_32 : decode cX4_keep 32 = .ok (.goto 8, 3) := by decide +kernel
set_option maxRecDepth 20000 in
theorem dX4_keep_35 : decode cX4_keep 35 = .ok (.aload_n 0, 1) := by decide +kernel
set_option maxRecDepth 20000 in
theorem dX4_keep_36 : decode cX4_keep 36 = .ok (.iconst 1, 1) := by decide +kernel
set_option maxRecDepth 20000 in
theorem dX4_keep_37 : decode cX4_keep 37 = .ok (.putfield 48, 3) := by decide +kernel
set_option maxRecDepth 20000 in
theorem dX4_keep_40 : decode cX4_keep 40 = .ok (.aload_n 0, 1) := by decide +kernel
set_option maxRecDepth 20000 in
theorem dX4_keep_41 : decode cX4_keep 41 = .ok (.invokevirtual 126, 3) := by decide +kernel
set_option maxRecDepth 20000 in
theorem dX4_keep_44 : decode cX4_keep 44 = .ok (.ireturn, 1) := by decide +kernel
set_option maxRecDepth 20000 in
theorem dX4_back_0 : decode cX4_back 0 = .ok (.iload_n 1, 1) := by decide +kernel
set_option maxRecDepth 20000 in
theorem dX4_back_1 : decode cX4_back 1 = .ok (.iconst 0, 1) := by decide +kernel
set_option maxRecDepth 20000 in
theorem dX4_back_2 : decode cX4_back 2 = .ok (.iconst 1, 1) := by decide +kernel
set_option maxRecDepth 20000 in
theorem dX4_back_3 : decode cX4_back 3 = .ok (.invokestatic 55, 3) := by decide +kernel
set_option maxRecDepth 20000 in
theorem dX4_back_6 : decode cX4_back 6 = .ok (.ifCond .ne 5, 3) := by decide +kernel
set_option maxRecDepth 20000 in
theorem dX4_back_9 : decode cX4_back 9 = .ok (.iconst (-1), 1) := by decide +kernel
set_option maxRecDepth 20000 in
theorem dX4_back_10 : decode cX4_back 10 = .ok (.ireturn, 1) := by decide +kernel
set_option maxRecDepth 20000 in
theorem dX4_back_11 : decode cX4_back 11 = .ok (.iload_n 1, 1) := by decide +kernel
set_option maxRecDepth 20000 in
theorem dX4_back_12 : decode cX4_back 12 = .ok (.ifCond .ne 13, 3) := by decide +kernel
set_option maxRecDepth 20000 in
theorem dX4_back_15 : decode cX4_back 15 = .ok (.aload_n 0, 1) := by decide +kernel
set_option maxRecDepth 20000 in
theorem dX4_back_16 : decode cX4_back 16 = .ok (.getfield 44, 3) := by decide +kernel
set_option maxRecDepth 20000 in
theorem dX4_back_19 : decode cX4_back 19 = .ok (.ifCond .eq 13, 3) := by decide +kernel
set_option maxRecDepth 20000 in
theorem dX4_back_22 : decode cX4_back 22 = .ok (.goto 13, 3) := by decide +kernel
set_option maxRecDepth 20000 in
theorem dX4_back_25 : decode cX4_back 25 = .ok (.aload_n 0, 1) := by decide +kernel
set_option maxRecDepth 20000 in
theorem dX4_back_26 : decode cX4_back 26 = .ok (.getfield 48, 3) := by decide +kernel
set_option maxRecDepth 20000 in
theorem dX4_back_29 : decode cX4_back 29 = .ok (.ifCond .ne 6, 3) := by decide +kernel
set_option maxRecDepth 20000 in
theorem dX4_back_32 : decode cX4_back 32 = .ok (.bipush (-2), 2) := by decide +kernel
set_option maxRecDepth 20000 in
theorem dX4_back_34 : decode cX4_back 34 = .ok (.ireturn, 1) := by decide +kernel
set_option maxRecDepth 20000 in
theorem dX4_back_35 : decode cX4_back 35 = .ok (.aload_n 0, 1) := by decide +kernel
set_option maxRecDepth 20000 in
theorem dX4_back_36 : decode cX4_back 36 = .ok (.getfield 34, 3) := by decide +kernel
set_option maxRecDepth 20000 in
theorem dX4_back_39 : decode cX4_back 39 = .ok (.aload_n 0, 1) := by decide +kernel
set_option maxRecDepth 20000 in
theorem dX4_back_40 : decode cX4_back 40 = .ok (.iload_n 1, 1) := by decide +kernel
set_option maxRecDepth 20000 in
theorem dX4_back_41 : decode cX4_back 41 = .ok (.invokevirtual 203, 3) := by decide +kernel
set_option maxRecDepth 20000 in
theorem dX4_back_44 : decode cX4_back 44 = .ok (.invokevirtual 207, 3) := by decide +kernel
set_option maxRecDepth 20000 in
theorem dX4_back_47 : decode cX4_back 47 = .ok (.aload_n 0, 1) := by decide +kernel
set_option maxRecDepth 20000 in
theorem dX4_back_48 : decode cX4_back 48 = .ok (.invokevirtual 126, 3) := by decide +kernel
set_option maxRecDepth 20000 in
theorem dX4_back_51 : decode cX4_back 51 = .ok (.ireturn, 1) := by decide +kernel
set_option maxRecDepth 20000 in
theorem dX4_count_0 : decode cX4_count 0 = .ok (.iload_n 1, 1) := by decide +kernel
set_option maxRecDepth 20000 in
theorem dX4_count_1 : decode cX4_count 1 = .ok (.tableswitch 84 0 5 #[39, 47, 55, 63, 68, 73], 39) := by decide +kernel
set_option maxRecDepth 20000 in
theorem dX4_count_40 : decode cX4_count 40 = .ok (.aload_n 0, 1) := by decide +kernel
set_option maxRecDepth 20000 in
theorem dX4_count_41 : decode cX4_count 41 = .ok (.getfield 21, 3) := by decide +kernel
set_option maxRecDepth 20000 in
theorem dX4_count_44 : decode cX4_count 44 = .ok (.invokevirtual 62, 3) := by decide +kernel
set_option maxRecDepth 20000 in
theorem dX4_count_47 : decode cX4_count 47 = .ok (.ireturn, 1) := by decide +kernel
set_option maxRecDepth 20000 in
theorem dX4_count_48 : decode cX4_count 48 = .ok (.aload_n 0, 1) := by decide +kernel
set_option maxRecDepth 20000 in
theorem dX4_count_49 : decode cX4_count 49 = .ok (.getfield 25, 3) := by decide +kernel
set_option maxRecDepth 20000 in
theorem dX4_count_52 : decode cX4_count 52 = .ok (.invokevirtual 62, 3) := by decide +kernel
set_option maxRecDepth 20000 in
theorem dX4_count_55 : decode cX4_count 55 = .ok (.ireturn, 1) := by decide +kernel
set_option maxRecDepth 20000 in
theorem dX4_count_56 : decode cX4_count 56 = .ok (.aload_n 0, 1) := by decide +kernel
set_option maxRecDepth 20000 in
theorem dX4_count_57 : decode cX4_count 57 = .ok (.getfield 34, 3) := by decide +kernel
set_option maxRecDepth 20000 in
theorem dX4_count_60 : decode cX4_count 60 = .ok (.getfield 121, 3) := by decide +kernel
set_option maxRecDepth 20000 in
theorem dX4_count_63 : decode cX4_count 63 = .ok (.ireturn, 1) := by decide +kernel
set_option maxRecDepth 20000 in
theorem dX4_count_64 : decode cX4_count 64 = .ok (.aload_n 0, 1) := by decide +kernel
set_option maxRecDepth 20000 in
theorem dX4_count_65 : decode cX4_count 65 = .ok (.invokevirtual 126, 3) := by decide +kernel
set_option maxRecDepth 20000 in
theorem dX4_count_68 : decode cX4_count 68 = .ok (.ireturn, 1) := by decide +kernel
set_option maxRecDepth 20000 in
theorem dX4_count_69 : decode cX4_count 69 = .ok (.aload_n 0, 1) := by decide +kernel
set_option maxRecDepth 20000 in
theorem dX4_count_70 : decode cX4_count 70 = .ok (.invokevirtual 172, 3) := by decide +kernel
set_option maxRecDepth 20000 in
theorem dX4_count_73 : decode cX4_count 73 = .ok (.ireturn, 1) := by decide +kernel
set_option maxRecDepth 20000 in
theorem dX4_count_74 : decode cX4_count 74 = .ok (.aload_n 0, 1) := by decide +kernel
set_option maxRecDepth 20000 in
theorem dX4_count_75 : decode cX4_count 75 = .ok (.getfield 10, 3) := by decide +kernel
set_option maxRecDepth 20000 in
theorem dX4_count_78 : decode cX4_count 78 = .ok (.getfield 59, 3) := by decide +kernel
set_option maxRecDepth 20000 in
theorem dX4_count_81 : decode cX4_count 81 = .ok (.invokevirtual 62, 3) := by decide +kernel
set_option maxRecDepth 20000 in
theorem dX4_count_84 : decode cX4_count 84 = .ok (.ireturn, 1) := by decide +kernel
set_option maxRecDepth 20000 in
theorem dX4_count_85 : decode cX4_count 85 = .ok (.iconst (-1), 1) := by decide +kernel
set_option maxRecDepth 20000 in
theorem dX4_count_86 : decode cX4_count 86 = .ok (.ireturn, 1) := by decide +kernel
set_option maxRecDepth 20000 in
theorem dX4_trace_0 : decode cX4_trace 0 = .ok (.aload_n 0, 1) := by decide +kernel
set_option maxRecDepth 20000 in
theorem dX4_trace_1 : decode cX4_trace 1 = .ok (.getfield 51, 3) := by decide +kernel
set_option maxRecDepth 20000 in
theorem dX4_trace_4 : decode cX4_trace 4 = .ok (.lreturn, 1) := by decide +kernel
set_option maxRecDepth 20000 in
theorem dX4_isWithin_0 : decode cX4_isWithin 0 = .ok (.iload_n 0, 1) := by decide +kernel
set_option maxRecDepth 20000 in
theorem dX4_isWithin_1 : decode cX4_isWithin 1 = .ok (.iload_n 1, 1) := by decide +kernel
set_option maxRecDepth 20000 in
theorem dX4_isWithin_2 : decode cX4_isWithin 2 = .ok (.if_icmp .lt 12, 3) := by decide +kernel
set_option maxRecDepth 20000 in
theorem dX4_isWithin_5 : decode cX4_isWithin 5 = .ok (.iload_n 0, 1) := by decide +kernel
set_option maxRecDepth 20000 in
theorem dX4_isWithin_6 : decode cX4_isWithin 6 = .ok (.iload_n 2, 1) := by decide +kernel
set_option maxRecDepth 20000 in
theorem dX4_isWithin_7 : decode cX4_isWithin 7 = .ok (.if_icmp .gt 7, 3) := by decide +kernel
set_option maxRecDepth 20000 in
theorem dX4_isWithin_10 : decode cX4_isWithin 10 = .ok (.iconst 1, 1) := by decide +kernel
set_option maxRecDepth 20000 in
theorem dX4_isWithin_11 : decode cX4_isWithin 11 = .ok (.goto 4, 3) := by decide +kernel
set_option maxRecDepth 20000 in
theorem dX4_isWithin_14 : decode cX4_isWithin 14 = .ok (.iconst 0, 1) := by decide +kernel
set_option maxRecDepth 20000 in
theorem dX4_isWithin_15 : decode cX4_isWithin 15 = .ok (.ireturn, 1) := by decide +kernel
set_option maxRecDepth 20000 in
theorem dX4_isWeight_0 : decode cX4_isWeight 0 = .ok (.iload_n 0, 1) := by decide +kernel
set_option maxRecDepth 20000 in
theorem dX4_isWeight_1 : decode cX4_isWeight 1 = .ok (.iconst 0, 1) := by decide +kernel
set_option maxRecDepth 20000 in
theorem dX4_isWeight_2 : decode cX4_isWeight 2 = .ok (.bipush 60, 2) := by decide +kernel
set_option maxRecDepth 20000 in
theorem dX4_isWeight_4 : decode cX4_isWeight 4 = .ok (.invokestatic 55, 3) := by decide +kernel
set_option maxRecDepth 20000 in
theorem dX4_isWeight_7 : decode cX4_isWeight 7 = .ok (.ireturn, 1) := by decide +kernel
set_option maxRecDepth 20000 in
theorem dX4_isLoad_0 : decode cX4_isLoad 0 = .ok (.aload_n 0, 1) := by decide +kernel
set_option maxRecDepth 20000 in
theorem dX4_isLoad_1 : decode cX4_isLoad 1 = .ok (.getfield 21, 3) := by decide +kernel
set_option maxRecDepth 20000 in
theorem dX4_isLoad_4 : decode cX4_isLoad 4 = .ok (.iload_n 1, 1) := by decide +kernel
set_option maxRecDepth 20000 in
theorem dX4_isLoad_5 : decode cX4_isLoad 5 = .ok (.invokevirtual 210, 3) := by decide +kernel
set_option maxRecDepth 20000 in
theorem dX4_isLoad_8 : decode cX4_isLoad 8 = .ok (.ireturn, 1) := by decide +kernel
set_option maxRecDepth 20000 in
theorem dX4_isTaster_0 : decode cX4_isTaster 0 = .ok (.aload_n 0, 1) := by decide +kernel
set_option maxRecDepth 20000 in
theorem dX4_isTaster_1 : decode cX4_isTaster 1 = .ok (.getfield 25, 3) := by decide +kernel
set_option maxRecDepth 20000 in
theorem dX4_isTaster_4 : decode cX4_isTaster 4 = .ok (.iload_n 1, 1) := by decide +kernel
set_option maxRecDepth 20000 in
theorem dX4_isTaster_5 : decode cX4_isTaster 5 = .ok (.invokevirtual 210, 3) := by decide +kernel
set_option maxRecDepth 20000 in
theorem dX4_isTaster_8 : decode cX4_isTaster 8 = .ok (.ireturn, 1) := by decide +kernel
set_option maxRecDepth 20000 in
theorem dX4_isTasting_0 : decode cX4_isTasting 0 = .ok (.iload_n 0, 1) := by decide +kernel
set_option maxRecDepth 20000 in
theorem dX4_isTasting_1 : decode cX4_isTasting 1 = .ok (.invokestatic 118, 3) := by decide +kernel
set_option maxRecDepth 20000 in
theorem dX4_isTasting_4 : decode cX4_isTasting 4 = .ok (.ifCond .eq 27, 3) := by decide +kernel
set_option maxRecDepth 20000 in
theorem dX4_isTasting_7 : decode cX4_isTasting 7 = .ok (.iload_n 1, 1) := by decide +kernel
set_option maxRecDepth 20000 in
theorem dX4_isTasting_8 : decode cX4_isTasting 8 = .ok (.iconst 0, 1) := by decide +kernel
set_option maxRecDepth 20000 in
theorem dX4_isTasting_9 : decode cX4_isTasting 9 = .ok (.bipush 9, 2) := by decide +kernel
set_option maxRecDepth 20000 in
theorem dX4_isTasting_11 : decode cX4_isTasting 11 = .ok (.invokestatic 55, 3) := by decide +kernel
set_option maxRecDepth 20000 in
theorem dX4_isTasting_14 : decode cX4_isTasting 14 = .ok (.ifCond .eq 17, 3) := by decide +kernel
set_option maxRecDepth 20000 in
theorem dX4_isTasting_17 : decode cX4_isTasting 17 = .ok (.iload_n 2, 1) := by decide +kernel
set_option maxRecDepth 20000 in
theorem dX4_isTasting_18 : decode cX4_isTasting 18 = .ok (.iconst 0, 1) := by decide +kernel
set_option maxRecDepth 20000 in
theorem dX4_isTasting_19 : decode cX4_isTasting 19 = .ok (.bipush 9, 2) := by decide +kernel
set_option maxRecDepth 20000 in
theorem dX4_isTasting_21 : decode cX4_isTasting 21 = .ok (.invokestatic 55, 3) := by decide +kernel
set_option maxRecDepth 20000 in
theorem dX4_isTasting_24 : decode cX4_isTasting 24 = .ok (.ifCond .eq 7, 3) := by decide +kernel
set_option maxRecDepth 20000 in
theorem dX4_isTasting_27 : decode cX4_isTasting 27 = .ok (.iconst 1, 1) := by decide +kernel
set_option maxRecDepth 20000 in
theorem dX4_isTasting_28 : decode cX4_isTasting 28 = .ok (.goto 4, 3) := by decide +kernel
set_option maxRecDepth 20000 in
theorem dX4_isTasting_31 : decode cX4_isTasting 31 = .ok (.iconst 0, 1) := by decide +kernel
set_option maxRecDepth 20000 in
theorem dX4_isTasting_32 : decode cX4_isTasting 32 = .ok (.ireturn, 1) := by decide +kernel
set_option maxRecDepth 20000 in
theorem dX4_facts_0 : decode cX4_facts 0 = .ok (.aload_n 0, 1) := by decide +kernel
set_option maxRecDepth 20000 in
theorem dX4_facts_1 : decode cX4_facts 1 = .ok (.getfield 34, 3) := by decide +kernel
set_option maxRecDepth 20000 in
theorem dX4_facts_4 : decode cX4_facts 4 = .ok (.getfield 153, 3) := by decide +kernel
set_option maxRecDepth 20000 in
theorem dX4_facts_7 : decode cX4_facts 7 = .ok (.invokevirtual 62, 3) := by decide +kernel
set_option maxRecDepth 20000 in
theorem dX4_facts_10 : decode cX4_facts 10 = .ok (.bipush 6, 2) := by decide +kernel
set_option maxRecDepth 20000 in
theorem dX4_facts_12 : decode cX4_facts 12 = .ok (.idiv, 1) := by decide +kernel
set_option maxRecDepth 20000 in
theorem dX4_facts_13 : decode cX4_facts 13 = .ok (.ireturn, 1) := by decide +kernel
set_option maxRecDepth 20000 in
theorem dX4_fact_0 : decode cX4_fact 0 = .ok (.aload_n 0, 1) := by decide +kernel
set_option maxRecDepth 20000 in
theorem dX4_fact_1 : decode cX4_fact 1 = .ok (.getfield 34, 3) := by decide +kernel
set_option maxRecDepth 20000 in
theorem dX4_fact_4 : decode cX4_fact 4 = .ok (.getfield 153, 3) := by decide +kernel
set_option maxRecDepth 20000 in
theorem dX4_fact_7 : decode cX4_fact 7 = .ok (.iload_n 1, 1) := by decide +kernel
set_option maxRecDepth 20000 in
theorem dX4_fact_8 : decode cX4_fact 8 = .ok (.bipush 6, 2) := by decide +kernel
set_option maxRecDepth 20000 in
theorem dX4_fact_10 : decode cX4_fact 10 = .ok (.imul, 1) := by decide +kernel
set_option maxRecDepth 20000 in
theorem dX4_fact_11 : decode cX4_fact 11 = .ok (.iload_n 2, 1) := by decide +kernel
set_option maxRecDepth 20000 in
theorem dX4_fact_12 : decode cX4_fact 12 = .ok (.iadd, 1) := by decide +kernel
set_option maxRecDepth 20000 in
theorem dX4_fact_13 : decode cX4_fact 13 = .ok (.invokevirtual 102, 3) := by decide +kernel
set_option maxRecDepth 20000 in
theorem dX4_fact_16 : decode cX4_fact 16 = .ok (.ireturn, 1) := by decide +kernel
set_option maxRecDepth 20000 in
theorem dX4_addFact_0 : decode cX4_addFact 0 = .ok (.aload_n 0, 1) := by decide +kernel
set_option maxRecDepth 20000 in
theorem dX4_addFact_1 : decode cX4_addFact 1 = .ok (.getfield 34, 3) := by decide +kernel
set_option maxRecDepth 20000 in
theorem dX4_addFact_4 : decode cX4_addFact 4 = .ok (.getfield 153, 3) := by decide +kernel
set_option maxRecDepth 20000 in
theorem dX4_addFact_7 : decode cX4_addFact 7 = .ok (.iload_n 1, 1) := by decide +kernel
set_option maxRecDepth 20000 in
theorem dX4_addFact_8 : decode cX4_addFact 8 = .ok (.invokevirtual 68, 3) := by decide +kernel
set_option maxRecDepth 20000 in
theorem dX4_addFact_11 : decode cX4_addFact 11 = .ok (.aload_n 0, 1) := by decide +kernel
set_option maxRecDepth 20000 in
theorem dX4_addFact_12 : decode cX4_addFact 12 = .ok (.getfield 34, 3) := by decide +kernel
set_option maxRecDepth 20000 in
theorem dX4_addFact_15 : decode cX4_addFact 15 = .ok (.getfield 153, 3) := by decide +kernel
set_option maxRecDepth 20000 in
theorem dX4_addFact_18 : decode cX4_addFact 18 = .ok (.aload_n 0, 1) := by decide +kernel
set_option maxRecDepth 20000 in
theorem dX4_addFact_19 : decode cX4_addFact 19 = .ok (.getfield 34, 3) := by decide +kernel
set_option maxRecDepth 20000 in
theorem dX4_addFact_22 : decode cX4_addFact 22 = .ok (.getfield 109, 3) := by decide +kernel
set_option maxRecDepth 20000 in
theorem dX4_addFact_25 : decode cX4_addFact 25 = .ok (.iload_n 1, 1) := by decide +kernel
set_option maxRecDepth 20000 in
theorem dX4_addFact_26 : decode cX4_addFact 26 = .ok (.invokevirtual 102, 3) := by decide +kernel
set_option maxRecDepth 20000 in
theorem dX4_addFact_29 : decode cX4_addFact 29 = .ok (.invokevirtual 68, 3) := by decide +kernel
set_option maxRecDepth 20000 in
theorem dX4_addFact_32 : decode cX4_addFact 32 = .ok (.aload_n 0, 1) := by decide +kernel
set_option maxRecDepth 20000 in
theorem dX4_addFact_33 : decode cX4_addFact 33 = .ok (.getfield 34, 3) := by decide +kernel
set_option maxRecDepth 20000 in
theorem dX4_addFact_36 : decode cX4_addFact 36 = .ok (.getfield 153, 3) := by decide +kernel
set_option maxRecDepth 20000 in
theorem dX4_addFact_39 : decode cX4_addFact 39 = .ok (.aload_n 0, 1) := by decide +kernel
set_option maxRecDepth 20000 in
theorem dX4_addFact_40 : decode cX4_addFact 40 = .ok (.getfield 34, 3) := by decide +kernel
set_option maxRecDepth 20000 in
theorem dX4_addFact_43 : decode cX4_addFact 43 = .ok (.getfield 121, 3) := by decide +kernel
set_option maxRecDepth 20000 in
theorem dX4_addFact_46 : decode cX4_addFact 46 = .ok (.invokevirtual 68, 3) := by decide +kernel
set_option maxRecDepth 20000 in
theorem dX4_addFact_49 : decode cX4_addFact 49 = .ok (.aload_n 0, 1) := by decide +kernel
set_option maxRecDepth 20000 in
theorem dX4_addFact_50 : decode cX4_addFact 50 = .ok (.getfield 34, 3) := by decide +kernel
set_option maxRecDepth 20000 in
theorem dX4_addFact_53 : decode cX4_addFact 53 = .ok (.getfield 153, 3) := by decide +kernel
set_option maxRecDepth 20000 in
theorem dX4_addFact_56 : decode cX4_addFact 56 = .ok (.iload_n 2, 1) := by decide +kernel
set_option maxRecDepth 20000 in
theorem dX4_addFact_57 : decode cX4_addFact 57 = .ok (.invokevirtual 68, 3) := by decide +kernel
set_option maxRecDepth 20000 in
theorem dX4_addFact_60 : decode cX4_addFact 60 = .ok (.aload_n 0, 1) := by decide +kernel
set_option maxRecDepth 20000 in
theorem dX4_addFact_61 : decode cX4_addFact 61 = .ok (.getfield 34, 3) := by decide +kernel
set_option maxRecDepth 20000 in
theorem dX4_addFact_64 : decode cX4_addFact 64 = .ok (.getfield 153, 3) := by decide +kernel
set_option maxRecDepth 20000 in
theorem dX4_addFact_67 : decode cX4_addFact 67 = .ok (.iload_n 3, 1) := by decide +kernel
set_option maxRecDepth 20000 in
theorem dX4_addFact_68 : decode cX4_addFact 68 = .ok (.invokevirtual 68, 3) := by decide +kernel
set_option maxRecDepth 20000 in
theorem dX4_addFact_71 : decode cX4_addFact 71 = .ok (.aload_n 0, 1) := by decide +kernel
set_option maxRecDepth 20000 in
theorem dX4_addFact_72 : decode cX4_addFact 72 = .ok (.getfield 34, 3) := by decide +kernel
set_option maxRecDepth 20000 in
theorem dX4_addFact_75 : decode cX4_addFact 75 = .ok (.getfield 153, 3) := by decide +kernel
set_option maxRecDepth 20000 in
theorem dX4_addFact_78 : decode cX4_addFact 78 = .ok (.iload 4, 2) := by decide +kernel
set_option maxRecDepth 20000 in
theorem dX4_addFact_80 : decode cX4_addFact 80 = .ok (.invokevirtual 68, 3) := by decide +kernel
set_option maxRecDepth 20000 in
theorem dX4_addFact_83 : decode cX4_addFact 83 = .ok (.return_, 1) := by decide +kernel
set_option maxRecDepth 20000 in
theorem dX4_addLick_0 : decode cX4_addLick 0 = .ok (.aload_n 0, 1) := by decide +kernel
set_option maxRecDepth 20000 in
theorem dX4_addLick_1 : decode cX4_addLick 1 = .ok (.getfield 34, 3) := by decide +kernel
set_option maxRecDepth 20000 in
theorem dX4_addLick_4 : decode cX4_addLick 4 = .ok (.getfield 109, 3) := by decide +kernel
set_option maxRecDepth 20000 in
theorem dX4_addLick_7 : decode cX4_addLick 7 = .ok (.iload_n 1, 1) := by decide +kernel
set_option maxRecDepth 20000 in
theorem dX4_addLick_8 : decode cX4_addLick 8 = .ok (.aload_n 0, 1) := by decide +kernel
set_option maxRecDepth 20000 in
theorem dX4_addLick_9 : decode cX4_addLick 9 = .ok (.getfield 34, 3) := by decide +kernel
set_option maxRecDepth 20000 in
theorem dX4_addLick_12 : decode cX4_addLick 12 = .ok (.getfield 109, 3) := by decide +kernel
set_option maxRecDepth 20000 in
theorem dX4_addLick_15 : decode cX4_addLick 15 = .ok (.iload_n 1, 1) := by decide +kernel
set_option maxRecDepth 20000 in
theorem dX4_addLick_16 : decode cX4_addLick 16 = .ok (.invokevirtual 102, 3) := by decide +kernel
set_option maxRecDepth 20000 in
theorem dX4_addLick_19 : decode cX4_addLick 19 = .ok (.iconst 1, 1) := by decide +kernel
set_option maxRecDepth 20000 in
theorem dX4_addLick_20 : decode cX4_addLick 20 = .ok (.iadd, 1) := by decide +kernel
set_option maxRecDepth 20000 in
theorem dX4_addLick_21 : decode cX4_addLick 21 = .ok (.invokevirtual 144, 3) := by decide +kernel
set_option maxRecDepth 20000 in
theorem dX4_addLick_24 : decode cX4_addLick 24 = .ok (.return_, 1) := by decide +kernel
set_option maxRecDepth 20000 in
theorem dX4_thirst_0 : decode cX4_thirst 0 = .ok (.aload_n 0, 1) := by decide +kernel
set_option maxRecDepth 20000 in
theorem dX4_thirst_1 : decode cX4_thirst 1 = .ok (.getfield 25, 3) := by decide +kernel
set_option maxRecDepth 20000 in
theorem dX4_thirst_4 : decode cX4_thirst 4 = .ok (.iload_n 1, 1) := by decide +kernel
set_option maxRecDepth 20000 in
theorem dX4_thirst_5 : decode cX4_thirst 5 = .ok (.invokevirtual 102, 3) := by decide +kernel
set_option maxRecDepth 20000 in
theorem dX4_thirst_8 : decode cX4_thirst 8 = .ok (.aload_n 0, 1) := by decide +kernel
set_option maxRecDepth 20000 in
theorem dX4_thirst_9 : decode cX4_thirst 9 = .ok (.getfield 21, 3) := by decide +kernel
set_option maxRecDepth 20000 in
theorem dX4_thirst_12 : decode cX4_thirst 12 = .ok (.iload_n 2, 1) := by decide +kernel
set_option maxRecDepth 20000 in
theorem dX4_thirst_13 : decode cX4_thirst 13 = .ok (.invokevirtual 102, 3) := by decide +kernel
set_option maxRecDepth 20000 in
theorem dX4_thirst_16 : decode cX4_thirst 16 = .ok (.aload_n 0, 1) := by decide +kernel
set_option maxRecDepth 20000 in
theorem dX4_thirst_17 : decode cX4_thirst 17 = .ok (.getfield 34, 3) := by decide +kernel
set_option maxRecDepth 20000 in
theorem dX4_thirst_20 : decode cX4_thirst 20 = .ok (.getfield 109, 3) := by decide +kernel
set_option maxRecDepth 20000 in
theorem dX4_thirst_23 : decode cX4_thirst 23 = .ok (.iload_n 1, 1) := by decide +kernel
set_option maxRecDepth 20000 in
theorem dX4_thirst_24 : decode cX4_thirst 24 = .ok (.invokevirtual 102, 3) := by decide +kernel
set_option maxRecDepth 20000 in
theorem dX4_thirst_27 : decode cX4_thirst 27 = .ok (.aload_n 0, 1) := by decide +kernel
set_option maxRecDepth 20000 in
theorem dX4_thirst_28 : decode cX4_thirst 28 = .ok (.getfield 34, 3) := by decide +kernel
set_option maxRecDepth 20000 in
theorem dX4_thirst_31 : decode cX4_thirst 31 = .ok (.getfield 121, 3) := by decide +kernel
set_option maxRecDepth 20000 in
theorem dX4_thirst_34 : decode cX4_thirst 34 = .ok (.invokestatic 122, 3) := by decide +kernel
set_option maxRecDepth 20000 in
theorem dX4_thirst_37 : decode cX4_thirst 37 = .ok (.ireturn, 1) := by decide +kernel
set_option maxRecDepth 20000 in
theorem dX4_drinksIn_0 : decode cX4_drinksIn 0 = .ok (.aload_n 0, 1) := by decide +kernel
set_option maxRecDepth 20000 in
theorem dX4_drinksIn_1 : decode cX4_drinksIn 1 = .ok (.getfield 25, 3) := by decide +kernel
set_option maxRecDepth 20000 in
theorem dX4_drinksIn_4 : decode cX4_drinksIn 4 = .ok (.aload_n 0, 1) := by decide +kernel
set_option maxRecDepth 20000 in
theorem dX4_drinksIn_5 : decode cX4_drinksIn 5 = .ok (.iload_n 1, 1) := by decide +kernel
set_option maxRecDepth 20000 in
theorem dX4_drinksIn_6 : decode cX4_drinksIn 6 = .ok (.iconst 0, 1) := by decide +kernel
set_option maxRecDepth 20000 in
theorem dX4_drinksIn_7 : decode cX4_drinksIn 7 = .ok (.invokevirtual 147, 3) := by decide +kernel
set_option maxRecDepth 20000 in
theorem dX4_drinksIn_10 : decode cX4_drinksIn 10 = .ok (.invokevirtual 102, 3) := by decide +kernel
set_option maxRecDepth 20000 in
theorem dX4_drinksIn_13 : decode cX4_drinksIn 13 = .ok (.iload_n 2, 1) := by decide +kernel
set_option maxRecDepth 20000 in
theorem dX4_drinksIn_14 : decode cX4_drinksIn 14 = .ok (.aload_n 0, 1) := by decide +kernel
set_option maxRecDepth 20000 in
theorem dX4_drinksIn_15 : decode cX4_drinksIn 15 = .ok (.iload_n 1, 1) := by decide +kernel
set_option maxRecDepth 20000 in
theorem dX4_drinksIn_16 : decode cX4_drinksIn 16 = .ok (.iconst 1, 1) := by decide +kernel
set_option maxRecDepth 20000 in
theorem dX4_drinksIn_17 : decode cX4_drinksIn 17 = .ok (.invokevirtual 147, 3) := by decide +kernel
set_option maxRecDepth 20000 in
theorem dX4_drinksIn_20 : decode cX4_drinksIn 20 = .ok (.aload_n 0, 1) := by decide +kernel
set_option maxRecDepth 20000 in
theorem dX4_drinksIn_21 : decode cX4_drinksIn 21 = .ok (.iload_n 1, 1) := by decide +kernel
set_option maxRecDepth 20000 in
theorem dX4_drinksIn_22 : decode cX4_drinksIn 22 = .ok (.iconst 2, 1) := by decide +kernel
set_option maxRecDepth 20000 in
theorem dX4_drinksIn_23 : decode cX4_drinksIn 23 = .ok (.invokevirtual 147, 3) := by decide +kernel
set_option maxRecDepth 20000 in
theorem dX4_drinksIn_26 : decode cX4_drinksIn 26 = .ok (.invokestatic 122, 3) := by decide +kernel
set_option maxRecDepth 20000 in
theorem dX4_drinksIn_29 : decode cX4_drinksIn 29 = .ok (.ireturn, 1) := by decide +kernel
set_option maxRecDepth 20000 in
theorem dX4_canWeigh_0 : decode cX4_canWeigh 0 = .ok (.iconst 0, 1) := by decide +kernel
set_option maxRecDepth 20000 in
theorem dX4_canWeigh_1 : decode cX4_canWeigh 1 = .ok (.istore_n 3, 1) := by decide +kernel
set_option maxRecDepth 20000 in
theorem dX4_canWeigh_2 : decode cX4_canWeigh 2 = .ok (.iload_n 3, 1) := by decide +kernel
set_option maxRecDepth 20000 in
theorem dX4_canWeigh_3 : decode cX4_canWeigh 3 = .ok (.aload_n 0, 1) := by decide +kernel
set_option maxRecDepth 20000 in
theorem dX4_canWeigh_4 : decode cX4_canWeigh 4 = .ok (.invokevirtual 126, 3) := by decide +kernel
set_option maxRecDepth 20000 in
theorem dX4_canWeigh_7 : decode cX4_canWeigh 7 = .ok (.if_icmp .ge 57, 3) := by decide +kernel
set_option maxRecDepth 20000 in
theorem dX4_canWeigh_10 : decode cX4_canWeigh 10 = .ok (.aload_n 0, 1) := by decide +kernel
set_option maxRecDepth 20000 in
theorem dX4_canWeigh_11 : decode cX4_canWeigh 11 = .ok (.iload_n 3, 1) := by decide +kernel
set_option maxRecDepth 20000 in
theorem dX4_canWeigh_12 : decode cX4_canWeigh 12 = .ok (.iconst 3, 1) := by decide +kernel
set_option maxRecDepth 20000 in
theorem dX4_canWeigh_13 : decode cX4_canWeigh 13 = .ok (.invokevirtual 147, 3) := by decide +kernel
set_option maxRecDepth 20000 in
theorem dX4_canWeigh_16 : decode cX4_canWeigh 16 = .ok (.iload_n 1, 1) := by decide +kernel
set_option maxRecDepth 20000 in
theorem dX4_canWeigh_17 : decode cX4_canWeigh 17 = .ok (.if_icmp .ne 16, 3) := by decide +kernel
set_option maxRecDepth 20000 in
theorem dX4_canWeigh_20 : decode cX4_canWeigh 20 = .ok (.aload_n 0, 1) := by decide +kernel
set_option maxRecDepth 20000 in
theorem dX4_canWeigh_21 : decode cX4_canWeigh 21 = .ok (.iload_n 3, 1) := by decide +kernel
set_option maxRecDepth 20000 in
theorem dX4_canWeigh_22 : decode cX4_canWeigh 22 = .ok (.iconst 5, 1) := by decide +kernel
set_option maxRecDepth 20000 in
theorem dX4_canWeigh_23 : decode cX4_canWeigh 23 = .ok (.invokevirtual 147, 3) := by decide +kernel
set_option maxRecDepth 20000 in
theorem dX4_canWeigh_26 : decode cX4_canWeigh 26 = .ok (.ifCond .ne 7, 3) := by decide +kernel
set_option maxRecDepth 20000 in
theorem dX4_canWeigh_29 : decode cX4_canWeigh 29 = .ok (.iconst 1, 1) := by decide +kernel
set_option maxRecDepth 20000 in
theorem dX4_canWeigh_30 : decode cX4_canWeigh 30 = .ok (.goto 4, 3) := by decide +kernel
set_option maxRecDepth 20000 in
theorem dX4_canWeigh_33 : decode cX4_canWeigh 33 = .ok (.iconst 0, 1) := by decide +kernel
set_option maxRecDepth 20000 in
theorem dX4_canWeigh_34 : decode cX4_canWeigh 34 = .ok (.istore 4, 2) := by decide +kernel
set_option maxRecDepth 20000 in
theorem dX4_canWeigh_36 : decode cX4_canWeigh 36 = .ok (.iload 4, 2) := by decide +kernel
set_option maxRecDepth 20000 in
theorem dX4_canWeigh_38 : decode cX4_canWeigh 38 = .ok (.ifCond .eq 20, 3) := by decide +kernel
set_option maxRecDepth 20000 in
theorem dX4_canWeigh_41 : decode cX4_canWeigh 41 = .ok (.aload_n 0, 1) := by decide +kernel
set_option maxRecDepth 20000 in
theorem dX4_canWeigh_42 : decode cX4_canWeigh 42 = .ok (.iload_n 3, 1) := by decide +kernel
set_option maxRecDepth 20000 in
theorem dX4_canWeigh_43 : decode cX4_canWeigh 43 = .ok (.iload_n 2, 1) := by decide +kernel
set_option maxRecDepth 20000 in
theorem dX4_canWeigh_44 : decode cX4_canWeigh 44 = .ok (.invokevirtual 178, 3) := by decide +kernel
set_option maxRecDepth 20000 in
theorem dX4_canWeigh_47 : decode cX4_canWeigh 47 = .ok (.aload_n 0, 1) := by decide +kernel
set_option maxRecDepth 20000 in
theorem dX4_canWeigh_48 : decode cX4_canWeigh 48 = .ok (.iload_n 3, 1) := by decide +kernel
set_option maxRecDepth 20000 in
theorem dX4_canWeigh_49 : decode cX4_canWeigh 49 = .ok (.iconst 4, 1) := by decide +kernel
set_option maxRecDepth 20000 in
theorem dX4_canWeigh_50 : decode cX4_canWeigh 50 = .ok (.invokevirtual 147, 3) := by decide +kernel
set_option maxRecDepth 20000 in
theorem dX4_canWeigh_53 : decode cX4_canWeigh 53 = .ok (.if_icmp .eq 5, 3) := by decide +kernel
set_option maxRecDepth 20000 in
theorem dX4_canWeigh_56 : decode cX4_canWeigh 56 = .ok (.iconst 0, 1) := by decide +kernel
set_option maxRecDepth 20000 in
theorem dX4_canWeigh_57 : decode cX4_canWeigh 57 = .ok (.ireturn, 1) := by decide +kernel
set_option maxRecDepth 20000 in
theorem dX4_canWeigh_58 : decode cX4_canWeigh 58 = .ok (.iinc 3 1, 3) := by decide +kernel
set_option maxRecDepth 20000 in
theorem dX4_canWeigh_61 : decode cX4_canWeigh 61 = .ok (.goto (-59), 3) := by decide +kernel
set_option maxRecDepth 20000 in
theorem dX4_canWeigh_64 : decode cX4_canWeigh 64 = .ok (.iconst 1, 1) := by decide +kernel
set_option maxRecDepth 20000 in
theorem dX4_canWeigh_65 : decode cX4_canWeigh 65 = .ok (.ireturn, 1) := by decide +kernel
set_option maxRecDepth 20000 in
theorem dX4_leastOf_0 : decode cX4_leastOf 0 = .ok (.iconst 0, 1) := by decide +kernel
set_option maxRecDepth 20000 in
theorem dX4_leastOf_1 : decode cX4_leastOf 1 = .ok (.istore_n 2, 1) := by decide +kernel
set_option maxRecDepth 20000 in
theorem dX4_leastOf_2 : decode cX4_leastOf 2 = .ok (.iload_n 2, 1) := by decide +kernel
set_option maxRecDepth 20000 in
theorem dX4_leastOf_3 : decode cX4_leastOf 3 = .ok (.bipush 60, 2) := by decide +kernel
set_option maxRecDepth 20000 in
theorem dX4_leastOf_5 : decode cX4_leastOf 5 = .ok (.if_icmp .ge 18, 3) := by decide +kernel
set_option maxRecDepth 20000 in
theorem dX4_leastOf_8 : decode cX4_leastOf 8 = .ok (.aload_n 0, 1) := by decide +kernel
set_option maxRecDepth 20000 in
theorem dX4_leastOf_9 : decode cX4_leastOf 9 = .ok (.iload_n 1, 1) := by decide +kernel
set_option maxRecDepth 20000 in
theorem dX4_leastOf_10 : decode cX4_leastOf 10 = .ok (.iload_n 2, 1) := by decide +kernel
set_option maxRecDepth 20000 in
theorem dX4_leastOf_11 : decode cX4_leastOf 11 = .ok (.invokevirtual 213, 3) := by decide +kernel
set_option maxRecDepth 20000 in
theorem dX4_leastOf_14 : decode cX4_leastOf 14 = .ok (.ifCond .ne 9, 3) := by decide +kernel
set_option maxRecDepth 20000 in
theorem dX4_leastOf_17 : decode cX4_leastOf 17 = .ok (.iinc 2 1, 3) := by decide +kernel
set_option maxRecDepth 20000 in
theorem dX4_leastOf_20 : decode cX4_leastOf 20 = .ok (.goto (-18), 3) := by decide +kernel
set_option maxRecDepth 20000 in
theorem dX4_leastOf_23 : decode cX4_leastOf 23 = .ok (.iload_n 2, 1) := by decide +kernel
set_option maxRecDepth 20000 in
theorem dX4_leastOf_24 : decode cX4_leastOf 24 = .ok (.ireturn, 1) := by decide +kernel
set_option maxRecDepth 20000 in
theorem dX4_greatestOf_0 : decode cX4_greatestOf 0 = .ok (.bipush 60, 2) := by decide +kernel
set_option maxRecDepth 20000 in
theorem dX4_greatestOf_2 : decode cX4_greatestOf 2 = .ok (.istore_n 2, 1) := by decide +kernel
set_option maxRecDepth 20000 in
theorem dX4_greatestOf_3 : decode cX4_greatestOf 3 = .ok (.iload_n 2, 1) := by decide +kernel
set_option maxRecDepth 20000 in
theorem dX4_greatestOf_4 : decode cX4_greatestOf 4 = .ok (.ifCond .le 18, 3) := by decide +kernel
set_option maxRecDepth 20000 in
theorem dX4_greatestOf_7 : decode cX4_greatestOf 7 = .ok (.aload_n 0, 1) := by decide +kernel
set_option maxRecDepth 20000 in
theorem dX4_greatestOf_8 : decode cX4_greatestOf 8 = .ok (.iload_n 1, 1) := by decide +kernel
set_option maxRecDepth 20000 in
theorem dX4_greatestOf_9 : decode cX4_greatestOf 9 = .ok (.iload_n 2, 1) := by decide +kernel
set_option maxRecDepth 20000 in
theorem dX4_greatestOf_10 : decode cX4_greatestOf 10 = .ok (.invokevirtual 213, 3) := by decide +kernel
set_option maxRecDepth 20000 in
theorem dX4_greatestOf_13 : decode cX4_greatestOf 13 = .ok (.ifCond .ne 9, 3) := by decide +kernel
set_option maxRecDepth 20000 in
theorem dX4_greatestOf_16 : decode cX4_greatestOf 16 = .ok (.iinc 2 (-1), 3) := by decide +kernel
set_option maxRecDepth 20000 in
theorem dX4_greatestOf_19 : decode cX4_greatestOf 19 = .ok (.goto (-16), 3) := by decide +kernel
set_option maxRecDepth 20000 in
theorem dX4_greatestOf_22 : decode cX4_greatestOf 22 = .ok (.iload_n 2, 1) := by decide +kernel
set_option maxRecDepth 20000 in
theorem dX4_greatestOf_23 : decode cX4_greatestOf 23 = .ok (.ireturn, 1) := by decide +kernel
set_option maxRecDepth 20000 in
theorem dX4_endOfSpan_0 : decode cX4_endOfSpan 0 = .ok (.iload_n 1, 1) := by decide +kernel
set_option maxRecDepth 20000 in
theorem dX4_endOfSpan_1 : decode cX4_endOfSpan 1 = .ok (.iload_n 3, 1) := by decide +kernel
set_option maxRecDepth 20000 in
theorem dX4_endOfSpan_2 : decode cX4_endOfSpan 2 = .ok (.iload_n 2, 1) := by decide +kernel
set_option maxRecDepth 20000 in
theorem dX4_endOfSpan_3 : decode cX4_endOfSpan 3 = .ok (.aload_n 0, 1) := by decide +kernel
set_option maxRecDepth 20000 in
theorem dX4_endOfSpan_4 : decode cX4_endOfSpan 4 = .ok (.getfield 34, 3) := by decide +kernel
set_option maxRecDepth 20000 in
theorem dX4_endOfSpan_7 : decode cX4_endOfSpan 7 = .ok (.getfield 121, 3) := by decide +kernel
set_option maxRecDepth 20000 in
theorem dX4_endOfSpan_10 : decode cX4_endOfSpan 10 = .ok (.invokestatic 122, 3) := by decide +kernel
set_option maxRecDepth 20000 in
theorem dX4_endOfSpan_13 : decode cX4_endOfSpan 13 = .ok (.istore 5, 2) := by decide +kernel
set_option maxRecDepth 20000 in
theorem dX4_endOfSpan_15 : decode cX4_endOfSpan 15 = .ok (.iload_n 3, 1) := by decide +kernel
set_option maxRecDepth 20000 in
theorem dX4_endOfSpan_16 : decode cX4_endOfSpan 16 = .ok (.istore 6, 2) := by decide +kernel
set_option maxRecDepth 20000 in
theorem dX4_endOfSpan_18 : decode cX4_endOfSpan 18 = .ok (.iload 6, 2) := by decide +kernel
set_option maxRecDepth 20000 in
theorem dX4_endOfSpan_20 : decode cX4_endOfSpan 20 = .ok (.iload 4, 2) := by decide +kernel
set_option maxRecDepth 20000 in
theorem dX4_endOfSpan_22 : decode cX4_endOfSpan 22 = .ok (.if_icmp .ge 30, 3) := by decide +kernel
set_option maxRecDepth 20000 in
theorem dX4_endOfSpan_25 : decode cX4_endOfSpan 25 = .ok (.iload_n 1, 1) := by decide +kernel
set_option maxRecDepth 20000 in
theorem dX4_endOfSpan_26 : decode cX4_endOfSpan 26 = .ok (.iload 6, 2) := by decide +kernel
set_option maxRecDepth 20000 in
theorem dX4_endOfSpan_28 : decode cX4_endOfSpan 28 = .ok (.iconst 1, 1) := by decide +kernel
set_option maxRecDepth 20000 in
theorem dX4_endOfSpan_29 : decode cX4_endOfSpan 29 = .ok (.iadd, 1) := by decide +kernel
set_option maxRecDepth 20000 in
theorem dX4_endOfSpan_30 : decode cX4_endOfSpan 30 = .ok (.iload_n 2, 1) := by decide +kernel
set_option maxRecDepth 20000 in
theorem dX4_endOfSpan_31 : decode cX4_endOfSpan 31 = .ok (.aload_n 0, 1) := by decide +kernel
set_option maxRecDepth 20000 in
theorem dX4_endOfSpan_32 : decode cX4_endOfSpan 32 = .ok (.getfield 34, 3) := by decide +kernel
set_option maxRecDepth 20000 in
theorem dX4_endOfSpan_35 : decode cX4_endOfSpan 35 = .ok (.getfield 121, 3) := by decide +kernel
set_option maxRecDepth 20000 in
theorem dX4_endOfSpan_38 : decode cX4_endOfSpan 38 = .ok (.invokestatic 122, 3) := by decide +kernel
set_option maxRecDepth 20000 in
theorem dX4_endOfSpan_41 : decode cX4_endOfSpan 41 = .ok (.iload 5, 2) := by decide +kernel
set_option maxRecDepth 20000 in
theorem dX4_endOfSpan_43 : decode cX4_endOfSpan 43 = .ok (.if_icmp .ne 9, 3) := by decide +kernel
set_option maxRecDepth 20000 in
theorem dX4_endOfSpan_46 : decode cX4_endOfSpan 46 = .ok (.iinc 6 1, 3) := by decide +kernel
set_option maxRecDepth 20000 in
theorem dX4_endOfSpan_49 : decode cX4_endOfSpan 49 = .ok (.goto (-31), 3) := by decide +kernel
set_option maxRecDepth 20000 in
theorem dX4_endOfSpan_52 : decode cX4_endOfSpan 52 = .ok (.iload 6, 2) := by decide +kernel
set_option maxRecDepth 20000 in
theorem dX4_endOfSpan_54 : decode cX4_endOfSpan 54 = .ok (.ireturn, 1) := by decide +kernel
set_option maxRecDepth 20000 in
theorem dX4_leftAtWorst_0 : decode cX4_leftAtWorst 0 = .ok (.iconst 0, 1) := by decide +kernel
set_option maxRecDepth 20000 in
theorem dX4_leftAtWorst_1 : decode cX4_leftAtWorst 1 = .ok (.istore 4, 2) := by decide +kernel
set_option maxRecDepth 20000 in
theorem dX4_leftAtWorst_3 : decode cX4_leftAtWorst 3 = .ok (.iload_n 2, 1) := by decide +kernel
set_option maxRecDepth 20000 in
theorem dX4_leftAtWorst_4 : decode cX4_leftAtWorst 4 = .ok (.istore 5, 2) := by decide +kernel
set_option maxRecDepth 20000 in
theorem dX4_leftAtWorst_6 : decode cX4_leftAtWorst 6 = .ok (.iconst 0, 1) := by decide +kernel
set_option maxRecDepth 20000 in
theorem dX4_leftAtWorst_7 : decode cX4_leftAtWorst 7 = .ok (.istore 6, 2) := by decide +kernel
set_option maxRecDepth 20000 in
theorem dX4_leftAtWorst_9 : decode cX4_leftAtWorst 9 = .ok (.iload 6, 2) := by decide +kernel
set_option maxRecDepth 20000 in
theorem dX4_leftAtWorst_11 : decode cX4_leftAtWorst 11 = .ok (.bipush 60, 2) := by decide +kernel
set_option maxRecDepth 20000 in
theorem dX4_leftAtWorst_13 : decode cX4_leftAtWorst 13 = .ok (.if_icmp .gt 63, 3) := by decide +kernel
set_option maxRecDepth 20000 in
theorem dX4_leftAtWorst_16 : decode cX4_leftAtWorst 16 = .ok (.iload 5, 2) := by decide +kernel
set_option maxRecDepth 20000 in
theorem dX4_leftAtWorst_18 : decode cX4_leftAtWorst 18 = .ok (.iload_n 3, 1) := by decide +kernel
set_option maxRecDepth 20000 in
theorem dX4_leftAtWorst_19 : decode cX4_leftAtWorst 19 = .ok (.if_icmp .gt 57, 3) := by decide +kernel
set_option maxRecDepth 20000 in
theorem dX4_leftAtWorst_22 : decode cX4_leftAtWorst 22 = .ok (.aload_n 0, 1) := by decide +kernel
set_option maxRecDepth 20000 in
theorem dX4_leftAtWorst_23 : decode cX4_leftAtWorst 23 = .ok (.aload_n 0, 1) := by decide +kernel
set_option maxRecDepth 20000 in
theorem dX4_leftAtWorst_24 : decode cX4_leftAtWorst 24 = .ok (.getfield 25, 3) := by decide +kernel
set_option maxRecDepth 20000 in
theorem dX4_leftAtWorst_27 : decode cX4_leftAtWorst 27 = .ok (.iload_n 1, 1) := by decide +kernel
set_option maxRecDepth 20000 in
theorem dX4_leftAtWorst_28 : decode cX4_leftAtWorst 28 = .ok (.invokevirtual 102, 3) := by decide +kernel
set_option maxRecDepth 20000 in
theorem dX4_leftAtWorst_31 : decode cX4_leftAtWorst 31 = .ok (.aload_n 0, 1) := by decide +kernel
set_option maxRecDepth 20000 in
theorem dX4_leftAtWorst_32 : decode cX4_leftAtWorst 32 = .ok (.getfield 34, 3) := by decide +kernel
set_option maxRecDepth 20000 in
theorem dX4_leftAtWorst_35 : decode cX4_leftAtWorst 35 = .ok (.getfield 109, 3) := by decide +kernel
set_option maxRecDepth 20000 in
theorem dX4_leftAtWorst_38 : decode cX4_leftAtWorst 38 = .ok (.iload_n 1, 1) := by decide +kernel
set_option maxRecDepth 20000 in
theorem dX4_leftAtWorst_39 : decode cX4_leftAtWorst 39 = .ok (.invokevirtual 102, 3) := by decide +kernel
set_option maxRecDepth 20000 in
theorem dX4_leftAtWorst_42 : decode cX4_leftAtWorst 42 = .ok (.iload 5, 2) := by decide +kernel
set_option maxRecDepth 20000 in
theorem dX4_leftAtWorst_44 : decode cX4_leftAtWorst 44 = .ok (.iload_n 3, 1) := by decide +kernel
set_option maxRecDepth 20000 in
theorem dX4_leftAtWorst_45 : decode cX4_leftAtWorst 45 = .ok (.invokevirtual 217, 3) := by decide +kernel
set_option maxRecDepth 20000 in
theorem dX4_leftAtWorst_48 : decode cX4_leftAtWorst 48 = .ok (.istore 7, 2) := by decide +kernel
set_option maxRecDepth 20000 in
theorem dX4_leftAtWorst_50 : decode cX4_leftAtWorst 50 = .ok (.iload 4, 2) := by decide +kernel
set_option maxRecDepth 20000 in
theorem dX4_leftAtWorst_52 : decode cX4_leftAtWorst 52 = .ok (.iload 7, 2) := by decide +kernel
set_option maxRecDepth 20000 in
theorem dX4_leftAtWorst_54 : decode cX4_leftAtWorst 54 = .ok (.iload 5, 2) := by decide +kernel
set_option maxRecDepth 20000 in
theorem dX4_leftAtWorst_56 : decode cX4_leftAtWorst 56 = .ok (.isub, 1) := by decide +kernel
set_option maxRecDepth 20000 in
theorem dX4_leftAtWorst_57 : decode cX4_leftAtWorst 57 = .ok (.iconst 1, 1) := by decide +kernel
set_option maxRecDepth 20000 in
theorem dX4_leftAtWorst_58 : decode cX4_leftAtWorst 58 = .ok (.iadd, 1) := by decide +kernel
set_option maxRecDepth 20000 in
theorem dX4_leftAtWorst_59 : decode cX4_leftAtWorst 59 = .ok (.invokestatic 150, 3) := by decide +kernel
set_option maxRecDepth 20000 in
theorem dX4_leftAtWorst_62 : decode cX4_leftAtWorst 62 = .ok (.istore 4, 2) := by decide +kernel
set_option maxRecDepth 20000 in
theorem dX4_leftAtWorst_64 : decode cX4_leftAtWorst 64 = .ok (.iload 7, 2) := by decide +kernel
set_option maxRecDepth 20000 in
theorem dX4_leftAtWorst_66 : decode cX4_leftAtWorst 66 = .ok (.iconst 1, 1) := by decide +kernel
set_option maxRecDepth 20000 in
theorem dX4_leftAtWorst_67 : decode cX4_leftAtWorst 67 = .ok (.iadd, 1) := by decide +kernel
set_option maxRecDepth 20000 in
theorem dX4_leftAtWorst_68 : decode cX4_leftAtWorst 68 = .ok (.istore 5, 2) := by decide +kernel
set_option maxRecDepth 20000 in
theorem dX4_leftAtWorst_70 : decode cX4_leftAtWorst 70 = .ok (.iinc 6 1, 3) := by decide +kernel
set_option maxRecDepth 20000 in
theorem dX4_leftAtWorst_73 : decode cX4_leftAtWorst 73 = .ok (.goto (-64), 3) := by decide +kernel
set_option maxRecDepth 20000 in
theorem dX4_leftAtWorst_76 : decode cX4_leftAtWorst 76 = .ok (.iload 4, 2) := by decide +kernel
set_option maxRecDepth 20000 in
theorem dX4_leftAtWorst_78 : decode cX4_leftAtWorst 78 = .ok (.ireturn, 1) := by decide +kernel
set_option maxRecDepth 20000 in
theorem dX4_plannedLicks_0 : decode cX4_plannedLicks 0 = .ok (.iload_n 0, 1) := by decide +kernel
set_option maxRecDepth 20000 in
theorem dX4_plannedLicks_1 : decode cX4_plannedLicks 1 = .ok (.iconst 2, 1) := by decide +kernel
set_option maxRecDepth 20000 in
theorem dX4_plannedLicks_2 : decode cX4_plannedLicks 2 = .ok (.iload_n 1, 1) := by decide +kernel
set_option maxRecDepth 20000 in
theorem dX4_plannedLicks_3 : decode cX4_plannedLicks 3 = .ok (.imul, 1) := by decide +kernel
set_option maxRecDepth 20000 in
theorem dX4_plannedLicks_4 : decode cX4_plannedLicks 4 = .ok (.ishr, 1) := by decide +kernel
set_option maxRecDepth 20000 in
theorem dX4_plannedLicks_5 : decode cX4_plannedLicks 5 = .ok (.iconst 3, 1) := by decide +kernel
set_option maxRecDepth 20000 in
theorem dX4_plannedLicks_6 : decode cX4_plannedLicks 6 = .ok (.iand, 1) := by decide +kernel
set_option maxRecDepth 20000 in
theorem dX4_plannedLicks_7 : decode cX4_plannedLicks 7 = .ok (.ireturn, 1) := by decide +kernel
set_option maxRecDepth 20000 in
theorem dX4_planWith_0 : decode cX4_planWith 0 = .ok (.iload_n 0, 1) := by decide +kernel
set_option maxRecDepth 20000 in
theorem dX4_planWith_1 : decode cX4_planWith 1 = .ok (.iconst 1, 1) := by decide +kernel
set_option maxRecDepth 20000 in
theorem dX4_planWith_2 : decode cX4_planWith 2 = .ok (.iconst 2, 1) := by decide +kernel
set_option maxRecDepth 20000 in
theorem dX4_planWith_3 : decode cX4_planWith 3 = .ok (.iload_n 1, 1) := by decide +kernel
set_option maxRecDepth 20000 in
theorem dX4_planWith_4 : decode cX4_planWith 4 = .ok (.imul, 1) := by decide +kernel
set_option maxRecDepth 20000 in
theorem dX4_planWith_5 : decode cX4_planWith 5 = .ok (.ishl, 1) := by decide +kernel
set_option maxRecDepth 20000 in
theorem dX4_planWith_6 : decode cX4_planWith 6 = .ok (.iadd, 1) := by decide +kernel
set_option maxRecDepth 20000 in
theorem dX4_planWith_7 : decode cX4_planWith 7 = .ok (.ireturn, 1) := by decide +kernel
set_option maxRecDepth 20000 in
theorem dX4_isEnough_0 : decode cX4_isEnough 0 = .ok (.iload_n 2, 1) := by decide +kernel
set_option maxRecDepth 20000 in
theorem dX4_isEnough_1 : decode cX4_isEnough 1 = .ok (.iload_n 1, 1) := by decide +kernel
set_option maxRecDepth 20000 in
theorem dX4_isEnough_2 : decode cX4_isEnough 2 = .ok (.isub, 1) := by decide +kernel
set_option maxRecDepth 20000 in
theorem dX4_isEnough_3 : decode cX4_isEnough 3 = .ok (.iconst 1, 1) := by decide +kernel
set_option maxRecDepth 20000 in
theorem dX4_isEnough_4 : decode cX4_isEnough 4 = .ok (.iadd, 1) := by decide +kernel
set_option maxRecDepth 20000 in
theorem dX4_isEnough_5 : decode cX4_isEnough 5 = .ok (.iload_n 3, 1) := by decide +kernel
set_option maxRecDepth 20000 in
theorem dX4_isEnough_6 : decode cX4_isEnough 6 = .ok (.if_icmp .gt 5, 3) := by decide +kernel
set_option maxRecDepth 20000 in
theorem dX4_isEnough_9 : decode cX4_isEnough 9 = .ok (.iconst 1, 1) := by decide +kernel
set_option maxRecDepth 20000 in
theorem dX4_isEnough_10 : decode cX4_isEnough 10 = .ok (.ireturn, 1) := by decide +kernel
set_option maxRecDepth 20000 in
theorem dX4_isEnough_11 : decode cX4_isEnough 11 = .ok (.iload 4, 2) := by decide +kernel
set_option maxRecDepth 20000 in
theorem dX4_isEnough_13 : decode cX4_isEnough 13 = .ok (.ifCond .gt 5, 3) := by decide +kernel
set_option maxRecDepth 20000 in
theorem dX4_isEnough_16 : decode cX4_isEnough 16 = .ok (.iconst 0, 1) := by decide +kernel
set_option maxRecDepth 20000 in
theorem dX4_isEnough_17 : decode cX4_isEnough 17 = .ok (.ireturn, 1) := by decide +kernel
set_option maxRecDepth 20000 in
theorem dX4_isEnough_18 : decode cX4_isEnough 18 = .ok (.iconst 0, 1) := by decide +kernel
set_option maxRecDepth 20000 in
theorem dX4_isEnough_19 : decode cX4_isEnough 19 = .ok (.istore 6, 2) := by decide +kernel
set_option maxRecDepth 20000 in
theorem dX4_isEnough_21 : decode cX4_isEnough 21 = .ok (.iload 6, 2) := by decide +kernel
set_option maxRecDepth 20000 in
theorem dX4_isEnough_23 : decode cX4_isEnough 23 = .ok (.aload_n 0, 1) := by decide +kernel
set_option maxRecDepth 20000 in
theorem dX4_isEnough_24 : decode cX4_isEnough 24 = .ok (.getfield 25, 3) := by decide +kernel
set_option maxRecDepth 20000 in
theorem dX4_isEnough_27 : decode cX4_isEnough 27 = .ok (.invokevirtual 62, 3) := by decide +kernel
set_option maxRecDepth 20000 in
theorem dX4_isEnough_30 : decode cX4_isEnough 30 = .ok (.if_icmp .ge 27, 3) := by decide +kernel
set_option maxRecDepth 20000 in
theorem dX4_isEnough_33 : decode cX4_isEnough 33 = .ok (.aload_n 0, 1) := by decide +kernel
set_option maxRecDepth 20000 in
theorem dX4_isEnough_34 : decode cX4_isEnough 34 = .ok (.iload 6, 2) := by decide +kernel
set_option maxRecDepth 20000 in
theorem dX4_isEnough_36 : decode cX4_isEnough 36 = .ok (.iload_n 1, 1) := by decide +kernel
set_option maxRecDepth 20000 in
theorem dX4_isEnough_37 : decode cX4_isEnough 37 = .ok (.iload_n 2, 1) := by decide +kernel
set_option maxRecDepth 20000 in
theorem dX4_isEnough_38 : decode cX4_isEnough 38 = .ok (.iload_n 3, 1) := by decide +kernel
set_option maxRecDepth 20000 in
theorem dX4_isEnough_39 : decode cX4_isEnough 39 = .ok (.iload 4, 2) := by decide +kernel
set_option maxRecDepth 20000 in
theorem dX4_isEnough_41 : decode cX4_isEnough 41 = .ok (.iload 5, 2) := by decide +kernel
set_option maxRecDepth 20000 in
theorem dX4_isEnough_43 : decode cX4_isEnough 43 = .ok (.invokevirtual 220, 3) := by decide +kernel
set_option maxRecDepth 20000 in
theorem dX4_isEnough_46 : decode cX4_isEnough 46 = .ok (.ifCond .eq 5, 3) := by decide +kernel
set_option maxRecDepth 20000 in
theorem dX4_isEnough_49 : decode cX4_isEnough 49 = .ok (.iconst 1, 1) := by decide +kernel
set_option maxRecDepth 20000 in
theorem dX4_isEnough_50 : decode cX4_isEnough 50 = .ok (.ireturn, 1) := by decide +kernel
set_option maxRecDepth 20000 in
theorem dX4_isEnough_51 : decode cX4_isEnough 51 = .ok (.iinc 6 1, 3) := by decide +kernel
set_option maxRecDepth 20000 in
theorem dX4_isEnough_54 : decode cX4_isEnough 54 = .ok (.goto (-33), 3) := by decide +kernel
set_option maxRecDepth 20000 in
theorem dX4_isEnough_57 : decode cX4_isEnough 57 = .ok (.iconst 0, 1) := by decide +kernel
set_option maxRecDepth 20000 in
theorem dX4_isEnough_58 : decode cX4_isEnough 58 = .ok (.ireturn, 1) := by decide +kernel
set_option maxRecDepth 20000 in
theorem dX4_isEnoughBy_0 : decode cX4_isEnoughBy 0 = .ok (.aload_n 0, 1) := by decide +kernel
set_option maxRecDepth 20000 in
theorem dX4_isEnoughBy_1 : decode cX4_isEnoughBy 1 = .ok (.getfield 34, 3) := by decide +kernel
set_option maxRecDepth 20000 in
theorem dX4_isEnoughBy_4 : decode cX4_isEnoughBy 4 = .ok (.getfield 109, 3) := by decide +kernel
set_option maxRecDepth 20000 in
theorem dX4_isEnoughBy_7 : decode cX4_isEnoughBy 7 = .ok (.iload_n 1, 1) := by decide +kernel
set_option maxRecDepth 20000 in
theorem dX4_isEnoughBy_8 : decode cX4_isEnoughBy 8 = .ok (.invokevirtual 102, 3) := by decide +kernel
set_option maxRecDepth 20000 in
theorem dX4_isEnoughBy_11 : decode cX4_isEnoughBy 11 = .ok (.iload 6, 2) := by decide +kernel
set_option maxRecDepth 20000 in
theorem dX4_isEnoughBy_13 : decode cX4_isEnoughBy 13 = .ok (.iload_n 1, 1) := by decide +kernel
set_option maxRecDepth 20000 in
theorem dX4_isEnoughBy_14 : decode cX4_isEnoughBy 14 = .ok (.invokestatic 224, 3) := by decide +kernel
set_option maxRecDepth 20000 in
theorem dX4_isEnoughBy_17 : decode cX4_isEnoughBy 17 = .ok (.iadd, 1) := by decide +kernel
set_option maxRecDepth 20000 in
theorem dX4_isEnoughBy_18 : decode cX4_isEnoughBy 18 = .ok (.istore 7, 2) := by decide +kernel
set_option maxRecDepth 20000 in
theorem dX4_isEnoughBy_20 : decode cX4_isEnoughBy 20 = .ok (.iload_n 2, 1) := by decide +kernel
set_option maxRecDepth 20000 in
theorem dX4_isEnoughBy_21 : decode cX4_isEnoughBy 21 = .ok (.istore 8, 2) := by decide +kernel
set_option maxRecDepth 20000 in
theorem dX4_isEnoughBy_23 : decode cX4_isEnoughBy 23 = .ok (.iconst 0, 1) := by decide +kernel
set_option maxRecDepth 20000 in
theorem dX4_isEnoughBy_24 : decode cX4_isEnoughBy 24 = .ok (.istore 9, 2) := by decide +kernel
set_option maxRecDepth 20000 in
theorem dX4_isEnoughBy_26 : decode cX4_isEnoughBy 26 = .ok (.iload 9, 2) := by decide +kernel
set_option maxRecDepth 20000 in
theorem dX4_isEnoughBy_28 : decode cX4_isEnoughBy 28 = .ok (.bipush 60, 2) := by decide +kernel
set_option maxRecDepth 20000 in
theorem dX4_isEnoughBy_30 : decode cX4_isEnoughBy 30 = .ok (.if_icmp .gt 65, 3) := by decide +kernel
set_option maxRecDepth 20000 in
theorem dX4_isEnoughBy_33 : decode cX4_isEnoughBy 33 = .ok (.iload 8, 2) := by decide +kernel
set_option maxRecDepth 20000 in
theorem dX4_isEnoughBy_35 : decode cX4_isEnoughBy 35 = .ok (.iload_n 3, 1) := by decide +kernel
set_option maxRecDepth 20000 in
theorem dX4_isEnoughBy_36 : decode cX4_isEnoughBy 36 = .ok (.if_icmp .gt 59, 3) := by decide +kernel
set_option maxRecDepth 20000 in
theorem dX4_isEnoughBy_39 : decode cX4_isEnoughBy 39 = .ok (.aload_n 0, 1) := by decide +kernel
set_option maxRecDepth 20000 in
theorem dX4_isEnoughBy_40 : decode cX4_isEnoughBy 40 = .ok (.aload_n 0, 1) := by decide +kernel
set_option maxRecDepth 20000 in
theorem dX4_isEnoughBy_41 : decode cX4_isEnoughBy 41 = .ok (.getfield 25, 3) := by decide +kernel
set_option maxRecDepth 20000 in
theorem dX4_isEnoughBy_44 : decode cX4_isEnoughBy 44 = .ok (.iload_n 1, 1) := by decide +kernel
set_option maxRecDepth 20000 in
theorem dX4_isEnoughBy_45 : decode cX4_isEnoughBy 45 = .ok (.invokevirtual 102, 3) := by decide +kernel
set_option maxRecDepth 20000 in
theorem dX4_isEnoughBy_48 : decode cX4_isEnoughBy 48 = .ok (.iload 7, 2) := by decide +kernel
set_option maxRecDepth 20000 in
theorem dX4_isEnoughBy_50 : decode cX4_isEnoughBy 50 = .ok (.iload 8, 2) := by decide +kernel
set_option maxRecDepth 20000 in
theorem dX4_isEnoughBy_52 : decode cX4_isEnoughBy 52 = .ok (.iload_n 3, 1) := by decide +kernel
set_option maxRecDepth 20000 in
theorem dX4_isEnoughBy_53 : decode cX4_isEnoughBy 53 = .ok (.invokevirtual 217, 3) := by decide +kernel
set_option maxRecDepth 20000 in
theorem dX4_isEnoughBy_56 : decode cX4_isEnoughBy 56 = .ok (.istore 10, 2) := by decide +kernel
set_option maxRecDepth 20000 in
theorem dX4_isEnoughBy_58 : decode cX4_isEnoughBy 58 = .ok (.aload_n 0, 1) := by decide +kernel
set_option maxRecDepth 20000 in
theorem dX4_isEnoughBy_59 : decode cX4_isEnoughBy 59 = .ok (.iload 8, 2) := by decide +kernel
set_option maxRecDepth 20000 in
theorem dX4_isEnoughBy_61 : decode cX4_isEnoughBy 61 = .ok (.iload 10, 2) := by decide +kernel
set_option maxRecDepth 20000 in
theorem dX4_isEnoughBy_63 : decode cX4_isEnoughBy 63 = .ok (.iload 4, 2) := by decide +kernel
set_option maxRecDepth 20000 in
theorem dX4_isEnoughBy_65 : decode cX4_isEnoughBy 65 = .ok (.iload 5, 2) := by decide +kernel
set_option maxRecDepth 20000 in
theorem dX4_isEnoughBy_67 : decode cX4_isEnoughBy 67 = .ok (.iconst 1, 1) := by decide +kernel
set_option maxRecDepth 20000 in
theorem dX4_isEnoughBy_68 : decode cX4_isEnoughBy 68 = .ok (.isub, 1) := by decide +kernel
set_option maxRecDepth 20000 in
theorem dX4_isEnoughBy_69 : decode cX4_isEnoughBy 69 = .ok (.iload 6, 2) := by decide +kernel
set_option maxRecDepth 20000 in
theorem dX4_isEnoughBy_71 : decode cX4_isEnoughBy 71 = .ok (.iload_n 1, 1) := by decide +kernel
set_option maxRecDepth 20000 in
theorem dX4_isEnoughBy_72 : decode cX4_isEnoughBy 72 = .ok (.invokestatic 227, 3) := by decide +kernel
set_option maxRecDepth 20000 in
theorem dX4_isEnoughBy_75 : decode cX4_isEnoughBy 75 = .ok (.invokevirtual 165, 3) := by decide +kernel
set_option maxRecDepth 20000 in
theorem dX4_isEnoughBy_78 : decode cX4_isEnoughBy 78 = .ok (.ifCond .ne 5, 3) := by decide +kernel
set_option maxRecDepth 20000 in
theorem dX4_isEnoughBy_81 : decode cX4_isEnoughBy 81 = .ok (.iconst 0, 1) := by decide +kernel
set_option maxRecDepth 20000 in
theorem dX4_isEnoughBy_82 : decode cX4_isEnoughBy 82 = .ok (.ireturn, 1) := by decide +kernel
set_option maxRecDepth 20000 in
theorem dX4_isEnoughBy_83 : decode cX4_isEnoughBy 83 = .ok (.iload 10, 2) := by decide +kernel
set_option maxRecDepth 20000 in
theorem dX4_isEnoughBy_85 : decode cX4_isEnoughBy 85 = .ok (.iconst 1, 1) := by decide +kernel
set_option maxRecDepth 20000 in
theorem dX4_isEnoughBy_86 : decode cX4_isEnoughBy 86 = .ok (.iadd, 1) := by decide +kernel
set_option maxRecDepth 20000 in
theorem dX4_isEnoughBy_87 : decode cX4_isEnoughBy 87 = .ok (.istore 8, 2) := by decide +kernel
set_option maxRecDepth 20000 in
theorem dX4_isEnoughBy_89 : decode cX4_isEnoughBy 89 = .ok (.iinc 9 1, 3) := by decide +kernel
set_option maxRecDepth 20000 in
theorem dX4_isEnoughBy_92 : decode cX4_isEnoughBy 92 = .ok (.goto (-66), 3) := by decide +kernel
set_option maxRecDepth 20000 in
theorem dX4_isEnoughBy_95 : decode cX4_isEnoughBy 95 = .ok (.iconst 1, 1) := by decide +kernel
set_option maxRecDepth 20000 in
theorem dX4_isEnoughBy_96 : decode cX4_isEnoughBy 96 = .ok (.ireturn, 1) := by decide +kernel
set_option maxRecDepth 20000 in
theorem dX4_toldTastings_0 : decode cX4_toldTastings 0 = .ok (.aload_n 0, 1) := by decide +kernel
set_option maxRecDepth 20000 in
theorem dX4_toldTastings_1 : decode cX4_toldTastings 1 = .ok (.getfield 28, 3) := by decide +kernel
set_option maxRecDepth 20000 in
theorem dX4_toldTastings_4 : decode cX4_toldTastings 4 = .ok (.invokevirtual 62, 3) := by decide +kernel
set_option maxRecDepth 20000 in
theorem dX4_toldTastings_7 : decode cX4_toldTastings 7 = .ok (.iconst 4, 1) := by decide +kernel
set_option maxRecDepth 20000 in
theorem dX4_toldTastings_8 : decode cX4_toldTastings 8 = .ok (.idiv, 1) := by decide +kernel
set_option maxRecDepth 20000 in
theorem dX4_toldTastings_9 : decode cX4_toldTastings 9 = .ok (.ireturn, 1) := by decide +kernel
set_option maxRecDepth 20000 in
theorem dX4_isAsTold_0 : decode cX4_isAsTold 0 = .ok (.iconst 0, 1) := by decide +kernel
set_option maxRecDepth 20000 in
theorem dX4_isAsTold_1 : decode cX4_isAsTold 1 = .ok (.istore_n 2, 1) := by decide +kernel
set_option maxRecDepth 20000 in
theorem dX4_isAsTold_2 : decode cX4_isAsTold 2 = .ok (.iload_n 2, 1) := by decide +kernel
set_option maxRecDepth 20000 in
theorem dX4_isAsTold_3 : decode cX4_isAsTold 3 = .ok (.aload_n 0, 1) := by decide +kernel
set_option maxRecDepth 20000 in
theorem dX4_isAsTold_4 : decode cX4_isAsTold 4 = .ok (.getfield 28, 3) := by decide +kernel
set_option maxRecDepth 20000 in
theorem dX4_isAsTold_7 : decode cX4_isAsTold 7 = .ok (.invokevirtual 62, 3) := by decide +kernel
set_option maxRecDepth 20000 in
theorem dX4_isAsTold_10 : decode cX4_isAsTold 10 = .ok (.if_icmp .ge 58, 3) := by decide +kernel
set_option maxRecDepth 20000 in
theorem dX4_isAsTold_13 : decode cX4_isAsTold 13 = .ok (.iload_n 1, 1) := by decide +kernel
set_option maxRecDepth 20000 in
theorem dX4_isAsTold_14 : decode cX4_isAsTold 14 = .ok (.aload_n 0, 1) := by decide +kernel
set_option maxRecDepth 20000 in
theorem dX4_isAsTold_15 : decode cX4_isAsTold 15 = .ok (.getfield 28, 3) := by decide +kernel
set_option maxRecDepth 20000 in
theorem dX4_isAsTold_18 : decode cX4_isAsTold 18 = .ok (.iload_n 2, 1) := by decide +kernel
set_option maxRecDepth 20000 in
theorem dX4_isAsTold_19 : decode cX4_isAsTold 19 = .ok (.invokevirtual 102, 3) := by decide +kernel
set_option maxRecDepth 20000 in
theorem dX4_isAsTold_22 : decode cX4_isAsTold 22 = .ok (.aload_n 0, 1) := by decide +kernel
set_option maxRecDepth 20000 in
theorem dX4_isAsTold_23 : decode cX4_isAsTold 23 = .ok (.getfield 28, 3) := by decide +kernel
set_option maxRecDepth 20000 in
theorem dX4_isAsTold_26 : decode cX4_isAsTold 26 = .ok (.iload_n 2, 1) := by decide +kernel
set_option maxRecDepth 20000 in
theorem dX4_isAsTold_27 : decode cX4_isAsTold 27 = .ok (.iconst 1, 1) := by decide +kernel
set_option maxRecDepth 20000 in
theorem dX4_isAsTold_28 : decode cX4_isAsTold 28 = .ok (.iadd, 1) := by decide +kernel
set_option maxRecDepth 20000 in
theorem dX4_isAsTold_29 : decode cX4_isAsTold 29 = .ok (.invokevirtual 102, 3) := by decide +kernel
set_option maxRecDepth 20000 in
theorem dX4_isAsTold_32 : decode cX4_isAsTold 32 = .ok (.aload_n 0, 1) := by decide +kernel
set_option maxRecDepth 20000 in
theorem dX4_isAsTold_33 : decode cX4_isAsTold 33 = .ok (.getfield 28, 3) := by decide +kernel
set_option maxRecDepth 20000 in
theorem dX4_isAsTold_36 : decode cX4_isAsTold 36 = .ok (.iload_n 2, 1) := by decide +kernel
set_option maxRecDepth 20000 in
theorem dX4_isAsTold_37 : decode cX4_isAsTold 37 = .ok (.iconst 2, 1) := by decide +kernel
set_option maxRecDepth 20000 in
theorem dX4_isAsTold_38 : decode cX4_isAsTold 38 = .ok (.iadd, 1) := by decide +kernel
set_option maxRecDepth 20000 in
theorem dX4_isAsTold_39 : decode cX4_isAsTold 39 = .ok (.invokevirtual 102, 3) := by decide +kernel
set_option maxRecDepth 20000 in
theorem dX4_isAsTold_42 : decode cX4_isAsTold 42 = .ok (.invokestatic 122, 3) := by decide +kernel
set_option maxRecDepth 20000 in
theorem dX4_isAsTold_45 : decode cX4_isAsTold 45 = .ok (.istore_n 3, 1) := by decide +kernel
set_option maxRecDepth 20000 in
theorem dX4_isAsTold_46 : decode cX4_isAsTold 46 = .ok (.iload_n 3, 1) := by decide +kernel
set_option maxRecDepth 20000 in
theorem dX4_isAsTold_47 : decode cX4_isAsTold 47 = .ok (.aload_n 0, 1) := by decide +kernel
set_option maxRecDepth 20000 in
theorem dX4_isAsTold_48 : decode cX4_isAsTold 48 = .ok (.getfield 28, 3) := by decide +kernel
set_option maxRecDepth 20000 in
theorem dX4_isAsTold_51 : decode cX4_isAsTold 51 = .ok (.iload_n 2, 1) := by decide +kernel
set_option maxRecDepth 20000 in
theorem dX4_isAsTold_52 : decode cX4_isAsTold 52 = .ok (.iconst 3, 1) := by decide +kernel
set_option maxRecDepth 20000 in
theorem dX4_isAsTold_53 : decode cX4_isAsTold 53 = .ok (.iadd, 1) := by decide +kernel
set_option maxRecDepth 20000 in
theorem dX4_isAsTold_54 : decode cX4_isAsTold 54 = .ok (.invokevirtual 102, 3) := by decide +kernel
set_option maxRecDepth 20000 in
theorem dX4_isAsTold_57 : decode cX4_isAsTold 57 = .ok (.if_icmp .eq 5, 3) := by decide +kernel
set_option maxRecDepth 20000 in
theorem dX4_isAsTold_60 : decode cX4_isAsTold 60 = .ok (.iconst 0, 1) := by decide +kernel
set_option maxRecDepth 20000 in
theorem dX4_isAsTold_61 : decode cX4_isAsTold 61 = .ok (.ireturn, 1) := by decide +kernel
set_option maxRecDepth 20000 in
theorem dX4_isAsTold_62 : decode cX4_isAsTold 62 = .ok (.iinc 2 4, 3) := by decide +kernel
set_option maxRecDepth 20000 in
theorem dX4_isAsTold_65 : decode cX4_isAsTold 65 = .ok (.goto (-63), 3) := by decide +kernel
set_option maxRecDepth 20000 in
theorem dX4_isAsTold_68 : decode cX4_isAsTold 68 = .ok (.iconst 1, 1) := by decide +kernel
set_option maxRecDepth 20000 in
theorem dX4_isAsTold_69 : decode cX4_isAsTold 69 = .ok (.ireturn, 1) := by decide +kernel
set_option maxRecDepth 20000 in
theorem dX4_markOfTaster_0 : decode cX4_markOfTaster 0 = .ok (.aload_n 0, 1) := by decide +kernel
set_option maxRecDepth 20000 in
theorem dX4_markOfTaster_1 : decode cX4_markOfTaster 1 = .ok (.dup, 1) := by decide +kernel
set_option maxRecDepth 20000 in
theorem dX4_markOfTaster_2 : decode cX4_markOfTaster 2 = .ok (.getfield 51, 3) := by decide +kernel
set_option maxRecDepth 20000 in
theorem dX4_markOfTaster_5 : decode cX4_markOfTaster 5 = .ok (.lconst 1, 1) := by decide +kernel
set_option maxRecDepth 20000 in
theorem dX4_markOfTaster_6 : decode cX4_markOfTaster 6 = .ok (.ladd, 1) := by decide +kernel
set_option maxRecDepth 20000 in
theorem dX4_markOfTaster_7 : decode cX4_markOfTaster 7 = .ok (.putfield 51, 3) := by decide +kernel
set_option maxRecDepth 20000 in
theorem dX4_markOfTaster_10 : decode cX4_markOfTaster 10 = .ok (.aload_n 0, 1) := by decide +kernel
set_option maxRecDepth 20000 in
theorem dX4_markOfTaster_11 : decode cX4_markOfTaster 11 = .ok (.getfield 25, 3) := by decide +kernel
set_option maxRecDepth 20000 in
theorem dX4_markOfTaster_14 : decode cX4_markOfTaster 14 = .ok (.iload_n 1, 1) := by decide +kernel
set_option maxRecDepth 20000 in
theorem dX4_markOfTaster_15 : decode cX4_markOfTaster 15 = .ok (.invokevirtual 102, 3) := by decide +kernel
set_option maxRecDepth 20000 in
theorem dX4_markOfTaster_18 : decode cX4_markOfTaster 18 = .ok (.iconst 0, 1) := by decide +kernel
set_option maxRecDepth 20000 in
theorem dX4_markOfTaster_19 : decode cX4_markOfTaster 19 = .ok (.invokestatic 112, 3) := by decide +kernel
set_option maxRecDepth 20000 in
theorem dX4_markOfTaster_22 : decode cX4_markOfTaster 22 = .ok (.ireturn, 1) := by decide +kernel
set_option maxRecDepth 20000 in
theorem dX4_markOfCamel_0 : decode cX4_markOfCamel 0 = .ok (.aload_n 0, 1) := by decide +kernel
set_option maxRecDepth 20000 in
theorem dX4_markOfCamel_1 : decode cX4_markOfCamel 1 = .ok (.dup, 1) := by decide +kernel
set_option maxRecDepth 20000 in
theorem dX4_markOfCamel_2 : decode cX4_markOfCamel 2 = .ok (.getfield 51, 3) := by decide +kernel
set_option maxRecDepth 20000 in
theorem dX4_markOfCamel_5 : decode cX4_markOfCamel 5 = .ok (.ldc2_w 230, 3) := by decide +kernel
set_option maxRecDepth 20000 in
theorem dX4_markOfCamel_8 : decode cX4_markOfCamel 8 = .ok (.ladd, 1) := by decide +kernel
set_option maxRecDepth 20000 in
theorem dX4_markOfCamel_9 : decode cX4_markOfCamel 9 = .ok (.putfield 51, 3) := by decide +kernel
set_option maxRecDepth 20000 in
theorem dX4_markOfCamel_12 : decode cX4_markOfCamel 12 = .ok (.aload_n 0, 1) := by decide +kernel
set_option maxRecDepth 20000 in
theorem dX4_markOfCamel_13 : decode cX4_markOfCamel 13 = .ok (.iload_n 1, 1) := by decide +kernel
set_option maxRecDepth 20000 in
theorem dX4_markOfCamel_14 : decode cX4_markOfCamel 14 = .ok (.invokevirtual 185, 3) := by decide +kernel
set_option maxRecDepth 20000 in
theorem dX4_markOfCamel_17 : decode cX4_markOfCamel 17 = .ok (.aload_n 0, 1) := by decide +kernel
set_option maxRecDepth 20000 in
theorem dX4_markOfCamel_18 : decode cX4_markOfCamel 18 = .ok (.getfield 34, 3) := by decide +kernel
set_option maxRecDepth 20000 in
theorem dX4_markOfCamel_21 : decode cX4_markOfCamel 21 = .ok (.getfield 109, 3) := by decide +kernel
set_option maxRecDepth 20000 in
theorem dX4_markOfCamel_24 : decode cX4_markOfCamel 24 = .ok (.iload_n 1, 1) := by decide +kernel
set_option maxRecDepth 20000 in
theorem dX4_markOfCamel_25 : decode cX4_markOfCamel 25 = .ok (.invokevirtual 102, 3) := by decide +kernel
set_option maxRecDepth 20000 in
theorem dX4_markOfCamel_28 : decode cX4_markOfCamel 28 = .ok (.iadd, 1) := by decide +kernel
set_option maxRecDepth 20000 in
theorem dX4_markOfCamel_29 : decode cX4_markOfCamel 29 = .ok (.ireturn, 1) := by decide +kernel
set_option maxRecDepth 20000 in
theorem dX4_markOfChild_0 : decode cX4_markOfChild 0 = .ok (.aload_n 0, 1) := by decide +kernel
set_option maxRecDepth 20000 in
theorem dX4_markOfChild_1 : decode cX4_markOfChild 1 = .ok (.dup, 1) := by decide +kernel
set_option maxRecDepth 20000 in
theorem dX4_markOfChild_2 : decode cX4_markOfChild 2 = .ok (.getfield 51, 3) := by decide +kernel
set_option maxRecDepth 20000 in
theorem dX4_markOfChild_5 : decode cX4_markOfChild 5 = .ok (.ldc2_w 232, 3) := by decide +kernel
set_option maxRecDepth 20000 in
theorem dX4_markOfChild_8 : decode cX4_markOfChild 8 = .ok (.ladd, 1) := by decide +kernel
set_option maxRecDepth 20000 in
theorem dX4_markOfChild_9 : decode cX4_markOfChild 9 = .ok (.putfield 51, 3) := by decide +kernel
set_option maxRecDepth 20000 in
theorem dX4_markOfChild_12 : decode cX4_markOfChild 12 = .ok (.aload_n 0, 1) := by decide +kernel
set_option maxRecDepth 20000 in
theorem dX4_markOfChild_13 : decode cX4_markOfChild 13 = .ok (.iload_n 1, 1) := by decide +kernel
set_option maxRecDepth 20000 in
theorem dX4_markOfChild_14 : decode cX4_markOfChild 14 = .ok (.invokevirtual 185, 3) := by decide +kernel
set_option maxRecDepth 20000 in
theorem dX4_markOfChild_17 : decode cX4_markOfChild 17 = .ok (.aload_n 0, 1) := by decide +kernel
set_option maxRecDepth 20000 in
theorem dX4_markOfChild_18 : decode cX4_markOfChild 18 = .ok (.getfield 25, 3) := by decide +kernel
set_option maxRecDepth 20000 in
theorem dX4_markOfChild_21 : decode cX4_markOfChild 21 = .ok (.iload_n 1, 1) := by decide +kernel
set_option maxRecDepth 20000 in
theorem dX4_markOfChild_22 : decode cX4_markOfChild 22 = .ok (.invokevirtual 102, 3) := by decide +kernel
set_option maxRecDepth 20000 in
theorem dX4_markOfChild_25 : decode cX4_markOfChild 25 = .ok (.iconst 3, 1) := by decide +kernel
set_option maxRecDepth 20000 in
theorem dX4_markOfChild_26 : decode cX4_markOfChild 26 = .ok (.invokestatic 112, 3) := by decide +kernel
set_option maxRecDepth 20000 in
theorem dX4_markOfChild_29 : decode cX4_markOfChild 29 = .ok (.isub, 1) := by decide +kernel
set_option maxRecDepth 20000 in
theorem dX4_markOfChild_30 : decode cX4_markOfChild 30 = .ok (.ireturn, 1) := by decide +kernel
set_option maxRecDepth 20000 in
theorem dX4_markOfFeverish_0 : decode cX4_markOfFeverish 0 = .ok (.aload_n 0, 1) := by decide +kernel
set_option maxRecDepth 20000 in
theorem dX4_markOfFeverish_1 : decode cX4_markOfFeverish 1 = .ok (.dup, 1) := by decide +kernel
set_option maxRecDepth 20000 in
theorem dX4_markOfFeverish_2 : decode cX4_markOfFeverish 2 = .ok (.getfield 51, 3) := by decide +kernel
set_option maxRecDepth 20000 in
theorem dX4_markOfFeverish_5 : decode cX4_markOfFeverish 5 = .ok (.ldc2_w 234, 3) := by decide +kernel
set_option maxRecDepth 20000 in
theorem dX4_markOfFeverish_8 : decode cX4_markOfFeverish 8 = .ok (.ladd, 1) := by decide +kernel
set_option maxRecDepth 20000 in
theorem dX4_markOfFeverish_9 : decode cX4_markOfFeverish 9 = .ok (.putfield 51, 3) := by decide +kernel
set_option maxRecDepth 20000 in
theorem dX4_markOfFeverish_12 : decode cX4_markOfFeverish 12 = .ok (.aload_n 0, 1) := by decide +kernel
set_option maxRecDepth 20000 in
theorem dX4_markOfFeverish_13 : decode cX4_markOfFeverish 13 = .ok (.iload_n 1, 1) := by decide +kernel
set_option maxRecDepth 20000 in
theorem dX4_markOfFeverish_14 : decode cX4_markOfFeverish 14 = .ok (.invokevirtual 188, 3) := by decide +kernel
set_option maxRecDepth 20000 in
theorem dX4_markOfFeverish_17 : decode cX4_markOfFeverish 17 = .ok (.iconst 2, 1) := by decide +kernel
set_option maxRecDepth 20000 in
theorem dX4_markOfFeverish_18 : decode cX4_markOfFeverish 18 = .ok (.imul, 1) := by decide +kernel
set_option maxRecDepth 20000 in
theorem dX4_markOfFeverish_19 : decode cX4_markOfFeverish 19 = .ok (.ireturn, 1) := by decide +kernel
set_option maxRecDepth 20000 in
theorem dX4_markOfInspector_0 : decode cX4_markOfInspector 0 = .ok (.aload_n 0, 1) := by decide +kernel
set_option maxRecDepth 20000 in
theorem dX4_markOfInspector_1 : decode cX4_markOfInspector 1 = .ok (.dup, 1) := by decide +kernel
set_option maxRecDepth 20000 in
theorem dX4_markOfInspector_2 : decode cX4_markOfInspector 2 = .ok (.getfield 51, 3) := by decide +kernel
set_option maxRecDepth 20000 in
theorem dX4_markOfInspector_5 : decode cX4_markOfInspector 5 = .ok (.ldc2_w 236, 3) := by decide +kernel
set_option maxRecDepth 20000 in
theorem dX4_markOfInspector_8 : decode cX4_markOfInspector 8 = .ok (.ladd, 1) := by decide +kernel
set_option maxRecDepth 20000 in
theorem dX4_markOfInspector_9 : decode cX4_markOfInspector 9 = .ok (.putfield 51, 3) := by decide +kernel
set_option maxRecDepth 20000 in
theorem dX4_markOfInspector_12 : decode cX4_markOfInspector 12 = .ok (.aload_n 0, 1) := by decide +kernel
set_option maxRecDepth 20000 in
theorem dX4_markOfInspector_13 : decode cX4_markOfInspector 13 = .ok (.iload_n 1, 1) := by decide +kernel
set_option maxRecDepth 20000 in
theorem dX4_markOfInspector_14 : decode cX4_markOfInspector 14 = .ok (.invokevirtual 191, 3) := by decide +kernel
set_option maxRecDepth 20000 in
theorem dX4_markOfInspector_17 : decode cX4_markOfInspector 17 = .ok (.iload_n 1, 1) := by decide +kernel
set_option maxRecDepth 20000 in
theorem dX4_markOfInspector_18 : decode cX4_markOfInspector 18 = .ok (.iadd, 1) := by decide +kernel
set_option maxRecDepth 20000 in
theorem dX4_markOfInspector_19 : decode cX4_markOfInspector 19 = .ok (.ireturn, 1) := by decide +kernel
set_option maxRecDepth 20000 in
theorem dX4_markOfWell_0 : decode cX4_markOfWell 0 = .ok (.aload_n 0, 1) := by decide +kernel
set_option maxRecDepth 20000 in
theorem dX4_markOfWell_1 : decode cX4_markOfWell 1 = .ok (.dup, 1) := by decide +kernel
set_option maxRecDepth 20000 in
theorem dX4_markOfWell_2 : decode cX4_markOfWell 2 = .ok (.getfield 51, 3) := by decide +kernel
set_option maxRecDepth 20000 in
theorem dX4_markOfWell_5 : decode cX4_markOfWell 5 = .ok (.ldc2_w 238, 3) := by decide +kernel
set_option maxRecDepth 20000 in
theorem dX4_markOfWell_8 : decode cX4_markOfWell 8 = .ok (.ladd, 1) := by decide +kernel
set_option maxRecDepth 20000 in
theorem dX4_markOfWell_9 : decode cX4_markOfWell 9 = .ok (.putfield 51, 3) := by decide +kernel
set_option maxRecDepth 20000 in
theorem dX4_markOfWell_12 : decode cX4_markOfWell 12 = .ok (.aload_n 0, 1) := by decide +kernel
set_option maxRecDepth 20000 in
theorem dX4_markOfWell_13 : decode cX4_markOfWell 13 = .ok (.iload_n 1, 1) := by decide +kernel
set_option maxRecDepth 20000 in
theorem dX4_markOfWell_14 : decode cX4_markOfWell 14 = .ok (.invokevirtual 185, 3) := by decide +kernel
set_option maxRecDepth 20000 in
theorem dX4_markOfWell_17 : decode cX4_markOfWell 17 = .ok (.aload_n 0, 1) := by decide +kernel
set_option maxRecDepth 20000 in
theorem dX4_markOfWell_18 : decode cX4_markOfWell 18 = .ok (.getfield 34, 3) := by decide +kernel
set_option maxRecDepth 20000 in
theorem dX4_markOfWell_21 : decode cX4_markOfWell 21 = .ok (.getfield 121, 3) := by decide +kernel
set_option maxRecDepth 20000 in
theorem dX4_markOfWell_24 : decode cX4_markOfWell 24 = .ok (.iadd, 1) := by decide +kernel
set_option maxRecDepth 20000 in
theorem dX4_markOfWell_25 : decode cX4_markOfWell 25 = .ok (.ireturn, 1) := by decide +kernel
set_option maxRecDepth 20000 in
theorem dX4_imageAt_0 : decode cX4_imageAt 0 = .ok (.iload_n 1, 1) := by decide +kernel
set_option maxRecDepth 20000 in
theorem dX4_imageAt_1 : decode cX4_imageAt 1 = .ok (.ifCond .ne 10, 3) := by decide +kernel
set_option maxRecDepth 20000 in
theorem dX4_imageAt_4 : decode cX4_imageAt 4 = .ok (.aload_n 0, 1) := by decide +kernel
set_option maxRecDepth 20000 in
theorem dX4_imageAt_5 : decode cX4_imageAt 5 = .ok (.getfield 38, 3) := by decide +kernel
set_option maxRecDepth 20000 in
theorem dX4_imageAt_8 : decode cX4_imageAt 8 = .ok (.goto 7, 3) := by decide +kernel
set_option maxRecDepth 20000 in
theorem dX4_imageAt_11 : decode cX4_imageAt 11 = .ok (.aload_n 0, 1) := by decide +kernel
set_option maxRecDepth 20000 in
theorem dX4_imageAt_12 : decode cX4_imageAt 12 = .ok (.getfield 41, 3) := by decide +kernel
set_option maxRecDepth 20000 in
theorem dX4_imageAt_15 : decode cX4_imageAt 15 = .ok (.areturn, 1) := by decide +kernel
end
section
set_option maxRecDepth 20000 in
theorem dX5_init_0 : decode cX5_init 0 = .ok (.aload_n 0, 1) := by decide +kernel
set_option maxRecDepth 20000 in
theorem dX5_init_1 : decode cX5_init 1 = .ok (.invokespecial 1, 3) := by decide +kernel
set_option maxRecDepth 20000 in
theorem dX5_init_4 : decode cX5_init 4 = .ok (.aload_n 0, 1) := by decide +kernel
set_option maxRecDepth 20000 in
theorem dX5_init_5 : decode cX5_init 5 = .ok (.sipush 200, 3) := by decide +kernel
set_option maxRecDepth 20000 in
theorem dX5_init_8 : decode cX5_init 8 = .ok (.newarray .byte, 2) := by decide +kernel
set_option maxRecDepth 20000 in
theorem dX5_init_10 : decode cX5_init 10 = .ok (.putfield 7, 3) := by decide +kernel
set_option maxRecDepth 20000 in
theorem dX5_init_13 : decode cX5_init 13 = .ok (.aload_n 0, 1) := by decide +kernel
set_option maxRecDepth 20000 in
theorem dX5_init_14 : decode cX5_init 14 = .ok (.iconst 2, 1) := by decide +kernel
set_option maxRecDepth 20000 in
theorem dX5_init_15 : decode cX5_init 15 = .ok (.newarray .int, 2) := by decide +kernel
set_option maxRecDepth 20000 in
theorem dX5_init_17 : decode cX5_init 17 = .ok (.putfield 13, 3) := by decide +kernel
set_option maxRecDepth 20000 in
theorem dX5_init_20 : decode cX5_init 20 = .ok (.aload_n 0, 1) := by decide +kernel
set_option maxRecDepth 20000 in
theorem dX5_init_21 : decode cX5_init 21 = .ok (.bipush 10, 2) := by decide +kernel
set_option maxRecDepth 20000 in
theorem dX5_init_23 : decode cX5_init 23 = .ok (.newarray .int, 2) := by decide +kernel
set_option maxRecDepth 20000 in
theorem dX5_init_25 : decode cX5_init 25 = .ok (.putfield 17, 3) := by decide +kernel
set_option maxRecDepth 20000 in
theorem dX5_init_28 : decode cX5_init 28 = .ok (.aload_n 0, 1) := by decide +kernel
set_option maxRecDepth 20000 in
theorem dX5_init_29 : decode cX5_init 29 = .ok (.iconst 2, 1) := by decide +kernel
set_option maxRecDepth 20000 in
theorem dX5_init_30 : decode cX5_init 30 = .ok (.newarray .int, 2) := by decide +kernel
set_option maxRecDepth 20000 in
theorem dX5_init_32 : decode cX5_init 32 = .ok (.putfield 20, 3) := by decide +kernel
set_option maxRecDepth 20000 in
theorem dX5_init_35 : decode cX5_init 35 = .ok (.aload_n 0, 1) := by decide +kernel
set_option maxRecDepth 20000 in
theorem dX5_init_36 : decode cX5_init 36 = .ok (.bipush 12, 2) := by decide +kernel
set_option maxRecDepth 20000 in
theorem dX5_init_38 : decode cX5_init 38 = .ok (.newarray .int, 2) := by decide +kernel
set_option maxRecDepth 20000 in
theorem dX5_init_40 : decode cX5_init 40 = .ok (.putfield 23, 3) := by decide +kernel
set_option maxRecDepth 20000 in
theorem dX5_init_43 : decode cX5_init 43 = .ok (.aload_n 0, 1) := by decide +kernel
set_option maxRecDepth 20000 in
theorem dX5_init_44 : decode cX5_init 44 = .ok (.bipush 12, 2) := by decide +kernel
set_option maxRecDepth 20000 in
theorem dX5_init_46 : decode cX5_init 46 = .ok (.newarray .int, 2) := by decide +kernel
set_option maxRecDepth 20000 in
theorem dX5_init_48 : decode cX5_init 48 = .ok (.putfield 26, 3) := by decide +kernel
set_option maxRecDepth 20000 in
theorem dX5_init_51 : decode cX5_init 51 = .ok (.aload_n 0, 1) := by decide +kernel
set_option maxRecDepth 20000 in
theorem dX5_init_52 : decode cX5_init 52 = .ok (.bipush 12, 2) := by decide +kernel
set_option maxRecDepth 20000 in
theorem dX5_init_54 : decode cX5_init 54 = .ok (.newarray .int, 2) := by decide +kernel
set_option maxRecDepth 20000 in
theorem dX5_init_56 : decode cX5_init 56 = .ok (.putfield 29, 3) := by decide +kernel
set_option maxRecDepth 20000 in
theorem dX5_init_59 : decode cX5_init 59 = .ok (.aload_n 0, 1) := by decide +kernel
set_option maxRecDepth 20000 in
theorem dX5_init_60 : decode cX5_init 60 = .ok (.bipush 12, 2) := by decide +kernel
set_option maxRecDepth 20000 in
theorem dX5_init_62 : decode cX5_init 62 = .ok (.newarray .int, 2) := by decide +kernel
set_option maxRecDepth 20000 in
theorem dX5_init_64 : decode cX5_init 64 = .ok (.putfield 32, 3) := by decide +kernel
set_option maxRecDepth 20000 in
theorem dX5_init_67 : decode cX5_init 67 = .ok (.aload_n 0, 1) := by decide +kernel
set_option maxRecDepth 20000 in
theorem dX5_init_68 : decode cX5_init 68 = .ok (.iconst 2, 1) := by decide +kernel
set_option maxRecDepth 20000 in
theorem dX5_init_69 : decode cX5_init 69 = .ok (.newarray .int, 2) := by decide +kernel
set_option maxRecDepth 20000 in
theorem dX5_init_71 : decode cX5_init 71 = .ok (.putfield 35, 3) := by decide +kernel
set_option maxRecDepth 20000 in
theorem dX5_init_74 : decode cX5_init 74 = .ok (.aload_n 0, 1) := by decide +kernel
set_option maxRecDepth 20000 in
theorem dX5_init_75 : decode cX5_init 75 = .ok (.sipush 240, 3) := by decide +kernel
set_option maxRecDepth 20000 in
theorem dX5_init_78 : decode cX5_init 78 = .ok (.newarray .int, 2) := by decide +kernel
set_option maxRecDepth 20000 in
theorem dX5_init_80 : decode cX5_init 80 = .ok (.putfield 38, 3) := by decide +kernel
set_option maxRecDepth 20000 in
theorem dX5_init_83 : decode cX5_init 83 = .ok (.aload_n 0, 1) := by decide +kernel
set_option maxRecDepth 20000 in
theorem dX5_init_84 : decode cX5_init 84 = .ok (.iconst 2, 1) := by decide +kernel
set_option maxRecDepth 20000 in
theorem dX5_init_85 : decode cX5_init 85 = .ok (.newarray .boolean, 2) := by decide +kernel
set_option maxRecDepth 20000 in
theorem dX5_init_87 : decode cX5_init 87 = .ok (.putfield 41, 3) := by decide +kernel
set_option maxRecDepth 20000 in
theorem dX5_init_90 : decode cX5_init 90 = .ok (.aload_n 0, 1) := by decide +kernel
set_option maxRecDepth 20000 in
theorem dX5_init_91 : decode cX5_init 91 = .ok (.bipush 32, 2) := by decide +kernel
set_option maxRecDepth 20000 in
theorem dX5_init_93 : decode cX5_init 93 = .ok (.newarray .int, 2) := by decide +kernel
set_option maxRecDepth 20000 in
theorem dX5_init_95 : decode cX5_init 95 = .ok (.putfield 45, 3) := by decide +kernel
set_option maxRecDepth 20000 in
theorem dX5_init_98 : decode cX5_init 98 = .ok (.aload_n 0, 1) := by decide +kernel
set_option maxRecDepth 20000 in
theorem dX5_init_99 : decode cX5_init 99 = .ok (.iconst 0, 1) := by decide +kernel
set_option maxRecDepth 20000 in
theorem dX5_init_100 : decode cX5_init 100 = .ok (.putfield 48, 3) := by decide +kernel
set_option maxRecDepth 20000 in
theorem dX5_init_103 : decode cX5_init 103 = .ok (.return_, 1) := by decide +kernel
set_option maxRecDepth 20000 in
theorem dX5_in_0 : decode cX5_in 0 = .ok (.iload_n 0, 1) := by decide +kernel
set_option maxRecDepth 20000 in
theorem dX5_in_1 : decode cX5_in 1 = .ok (.iload_n 1, 1) := by decide +kernel
set_option maxRecDepth 20000 in
theorem dX5_in_2 : decode cX5_in 2 = .ok (.if_icmp .lt 12, 3) := by decide +kernel
set_option maxRecDepth 20000 in
theorem dX5_in_5 : decode cX5_in 5 = .ok (.iload_n 0, 1) := by decide +kernel
set_option maxRecDepth 20000 in
theorem dX5_in_6 : decode cX5_in 6 = .ok (.iload_n 2, 1) := by decide +kernel
set_option maxRecDepth 20000 in
theorem dX5_in_7 : decode cX5_in 7 = .ok (.if_icmp .gt 7, 3) := by decide +kernel
set_option maxRecDepth 20000 in
theorem dX5_in_10 : decode cX5_in 10 = .ok (.iconst 1, 1) := by decide +kernel
set_option maxRecDepth 20000 in
theorem dX5_in_11 : decode cX5_in 11 = .ok (.goto 4, 3) := by decide +kernel
set_option maxRecDepth 20000 in
theorem dX5_in_14 : decode cX5_in 14 = .ok (.iconst 0, 1) := by decide +kernel
set_option maxRecDepth 20000 in
theorem dX5_in_15 : decode cX5_in 15 = .ok (.ireturn, 1) := by decide +kernel
set_option maxRecDepth 20000 in
theorem dX5_type_0 : decode cX5_type 0 = .ok (.iload_n 3, 1) := by decide +kernel
set_option maxRecDepth 20000 in
theorem dX5_type_1 : decode cX5_type 1 = .ok (.iconst 1, 1) := by decide +kernel
set_option maxRecDepth 20000 in
theorem dX5_type_2 : decode cX5_type 2 = .ok (.bipush 8, 2) := by decide +kernel
set_option maxRecDepth 20000 in
theorem dX5_type_4 : decode cX5_type 4 = .ok (.invokestatic 52, 3) := by decide +kernel
set_option maxRecDepth 20000 in
theorem dX5_type_7 : decode cX5_type 7 = .ok (.ifCond .ne 5, 3) := by decide +kernel
set_option maxRecDepth 20000 in
theorem dX5_type_10 : decode cX5_type 10 = .ok (.iconst (-1), 1) := by decide +kernel
set_option maxRecDepth 20000 in
theorem dX5_type_11 : decode cX5_type 11 = .ok (.ireturn, 1) := by decide +kernel
set_option maxRecDepth 20000 in
theorem dX5_type_12 : decode cX5_type 12 = .ok (.aload_n 0, 1) := by decide +kernel
set_option maxRecDepth 20000 in
theorem dX5_type_13 : decode cX5_type 13 = .ok (.getfield 48, 3) := by decide +kernel
set_option maxRecDepth 20000 in
theorem dX5_type_16 : decode cX5_type 16 = .ok (.iload_n 3, 1) := by decide +kernel
set_option maxRecDepth 20000 in
theorem dX5_type_17 : decode cX5_type 17 = .ok (.iadd, 1) := by decide +kernel
set_option maxRecDepth 20000 in
theorem dX5_type_18 : decode cX5_type 18 = .ok (.sipush 200, 3) := by decide +kernel
set_option maxRecDepth 20000 in
theorem dX5_type_21 : decode cX5_type 21 = .ok (.if_icmp .le 6, 3) := by decide +kernel
set_option maxRecDepth 20000 in
theorem dX5_type_24 : decode cX5_type 24 = .ok (.bipush (-3), 2) := by decide +kernel
set_option maxRecDepth 20000 in
theorem dX5_type_26 : decode cX5_type 26 = .ok (.ireturn, 1) := by decide +kernel
set_option maxRecDepth 20000 in
theorem dX5_type_27 : decode cX5_type 27 = .ok (.iload_n 3, 1) := by decide +kernel
set_option maxRecDepth 20000 in
theorem dX5_type_28 : decode cX5_type 28 = .ok (.iconst 1, 1) := by decide +kernel
set_option maxRecDepth 20000 in
theorem dX5_type_29 : decode cX5_type 29 = .ok (.isub, 1) := by decide +kernel
set_option maxRecDepth 20000 in
theorem dX5_type_30 : decode cX5_type 30 = .ok (.istore 4, 2) := by decide +kernel
set_option maxRecDepth 20000 in
theorem dX5_type_32 : decode cX5_type 32 = .ok (.iload 4, 2) := by decide +kernel
set_option maxRecDepth 20000 in
theorem dX5_type_34 : decode cX5_type 34 = .ok (.ifCond .lt 41, 3) := by decide +kernel
set_option maxRecDepth 20000 in
theorem dX5_type_37 : decode cX5_type 37 = .ok (.aload_n 0, 1) := by decide +kernel
set_option maxRecDepth 20000 in
theorem dX5_type_38 : decode cX5_type 38 = .ok (.getfield 7, 3) := by decide +kernel
set_option maxRecDepth 20000 in
theorem dX5_type_41 : decode cX5_type 41 = .ok (.aload_n 0, 1) := by decide +kernel
set_option maxRecDepth 20000 in
theorem dX5_type_42 : decode cX5_type 42 = .ok (.getfield 48, 3) := by decide +kernel
set_option maxRecDepth 20000 in
theorem dX5_type_45 : decode cX5_type 45 = .ok (.lload_n 1, 1) := by decide +kernel
set_option maxRecDepth 20000 in
theorem dX5_type_46 : decode cX5_type 46 = .ok (.bipush 8, 2) := by decide +kernel
set_option maxRecDepth 20000 in
theorem dX5_type_48 : decode cX5_type 48 = .ok (.iload 4, 2) := by decide +kernel
set_option maxRecDepth 20000 in
theorem dX5_type_50 : decode cX5_type 50 = .ok (.imul, 1) := by decide +kernel
set_option maxRecDepth 20000 in
theorem dX5_type_51 : decode cX5_type 51 = .ok (.lshr, 1) := by decide +kernel
set_option maxRecDepth 20000 in
theorem dX5_type_52 : decode cX5_type 52 = .ok (.ldc2_w 56, 3) := by decide +kernel
set_option maxRecDepth 20000 in
theorem dX5_type_55 : decode cX5_type 55 = .ok (.land, 1) := by decide +kernel
set_option maxRecDepth 20000 in
theorem dX5_type_56 : decode cX5_type 56 = .ok (.l2i, 1) := by decide +kernel
set_option maxRecDepth 20000 in
theorem dX5_type_57 : decode cX5_type 57 = .ok (.i2b, 1) := by decide +kernel
set_option maxRecDepth 20000 in
theorem dX5_type_58 : decode cX5_type 58 = .ok (.bastore, 1) := by decide +kernel
set_option maxRecDepth 20000 in
theorem dX5_type_59 : decode cX5_type 59 = .ok (.aload_n 0, 1) := by decide +kernel
set_option maxRecDepth 20000 in
theorem dX5_type_60 : decode cX5_type 60 = .ok (.dup, 1) := by decide +kernel
set_option maxRecDepth 20000 in
theorem dX5_type_61 : decode cX5_type 61 = .ok (.getfield 48, 3) := by decide +kernel
set_option maxRecDepth 20000 in
theorem dX5_type_64 : decode cX5_type 64 = .ok (.iconst 1, 1) := by decide +kernel
set_option maxRecDepth 20000 in
theorem dX5_type_65 : decode cX5_type 65 = .ok (.iadd, 1) := by decide +kernel
set_option maxRecDepth 20000 in
theorem dX5_type_66 : decode cX5_type 66 = .ok (.putfield 48, 3) := by decide +kernel
set_option maxRecDepth 20000 in
theorem dX5_type_69 : decode cX5_type 69 = .ok (.iinc 4 (-1), 3) := by decide +kernel
set_option maxRecDepth 20000 in
theorem dX5_type_72 : decode cX5_type 72 = .ok (.goto (-40), 3) := by decide +kernel
set_option maxRecDepth 20000 in
theorem dX5_type_75 : decode cX5_type 75 = .ok (.aload_n 0, 1) := by decide +kernel
set_option maxRecDepth 20000 in
theorem dX5_type_76 : decode cX5_type 76 = .ok (.getfield 48, 3) := by decide +kernel
set_option maxRecDepth 20000 in
theorem dX5_type_79 : decode cX5_type 79 = .ok (.ireturn, 1) := by decide +kernel
set_option maxRecDepth 20000 in
theorem dX5_clear_0 : decode cX5_clear 0 = .ok (.aload_n 0, 1) := by decide +kernel
set_option maxRecDepth 20000 in
theorem dX5_clear_1 : decode cX5_clear 1 = .ok (.getfield 48, 3) := by decide +kernel
set_option maxRecDepth 20000 in
theorem dX5_clear_4 : decode cX5_clear 4 = .ok (.istore_n 1, 1) := by decide +kernel
set_option maxRecDepth 20000 in
theorem dX5_clear_5 : decode cX5_clear 5 = .ok (.aload_n 0, 1) := by decide +kernel
set_option maxRecDepth 20000 in
theorem dX5_clear_6 : decode cX5_clear 6 = .ok (.iconst 0, 1) := by decide +kernel
set_option maxRecDepth 20000 in
theorem dX5_clear_7 : decode cX5_clear 7 = .ok (.putfield 48, 3) := by decide +kernel
set_option maxRecDepth 20000 in
theorem dX5_clear_10 : decode cX5_clear 10 = .ok (.iload_n 1, 1) := by decide +kernel
set_option maxRecDepth 20000 in
theorem dX5_clear_11 : decode cX5_clear 11 = .ok (.ireturn, 1) := by decide +kernel
set_option maxRecDepth 20000 in
theorem dX5_here_0 : decode cX5_here 0 = .ok (.aload_n 0, 1) := by decide +kernel
set_option maxRecDepth 20000 in
theorem dX5_here_1 : decode cX5_here 1 = .ok (.getfield 58, 3) := by decide +kernel
set_option maxRecDepth 20000 in
theorem dX5_here_4 : decode cX5_here 4 = .ok (.aload_n 0, 1) := by decide +kernel
set_option maxRecDepth 20000 in
theorem dX5_here_5 : decode cX5_here 5 = .ok (.getfield 48, 3) := by decide +kernel
set_option maxRecDepth 20000 in
theorem dX5_here_8 : decode cX5_here 8 = .ok (.if_icmp .ge 19, 3) := by decide +kernel
set_option maxRecDepth 20000 in
theorem dX5_here_11 : decode cX5_here 11 = .ok (.aload_n 0, 1) := by decide +kernel
set_option maxRecDepth 20000 in
theorem dX5_here_12 : decode cX5_here 12 = .ok (.getfield 7, 3) := by decide +kernel
set_option maxRecDepth 20000 in
theorem dX5_here_15 : decode cX5_here 15 = .ok (.aload_n 0, 1) := by decide +kernel
set_option maxRecDepth 20000 in
theorem dX5_here_16 : decode cX5_here 16 = .ok (.getfield 58, 3) := by decide +kernel
set_option maxRecDepth 20000 in
theorem dX5_here_19 : decode cX5_here 19 = .ok (.baload, 1) := by decide +kernel
set_option maxRecDepth 20000 in
theorem dX5_here_20 : decode cX5_here 20 = .ok (.sipush 255, 3) := by decide +kernel
set_option maxRecDepth 20000 in
theorem dX5_here_23 : decode cX5_here 23 = .ok (.iand, 1) := by decide +kernel
set_option maxRecDepth 20000 in
theorem dX5_here_24 : decode cX5_here 24 = .ok (.goto 4, 3) := by decide +kernel
set_option maxRecDepth 20000 in
theorem dX5_here_27 : decode cX5_here 27 = .ok (.iconst (-1), 1) := by decide +kernel
set_option maxRecDepth 20000 in
theorem dX5_here_28 : decode cX5_here 28 = .ok (.ireturn, 1) := by decide +kernel
set_option maxRecDepth 20000 in
theorem dX5_step_0 : decode cX5_step 0 = .ok (.aload_n 0, 1) := by decide +kernel
set_option maxRecDepth 20000 in
theorem dX5_step_1 : decode cX5_step 1 = .ok (.invokevirtual 61, 3) := by decide +kernel
set_option maxRecDepth 20000 in
theorem dX5_step_4 : decode cX5_step 4 = .ok (.bipush 32, 2) := by decide +kernel
set_option maxRecDepth 20000 in
theorem dX5_step_6 : decode cX5_step 6 = .ok (.if_icmp .ne 16, 3) := by decide +kernel
set_option maxRecDepth 20000 in
theorem dX5_step_9 : decode cX5_step 9 = .ok (.aload_n 0, 1) := by decide +kernel
set_option maxRecDepth 20000 in
theorem dX5_step_10 : decode cX5_step 10 = .ok (.dup, 1) := by decide +kernel
set_option maxRecDepth 20000 in
theorem dX5_step_11 : decode cX5_step 11 = .ok (.getfield 58, 3) := by decide +kernel
set_option maxRecDepth 20000 in
theorem dX5_step_14 : decode cX5_step 14 = .ok (.iconst 1, 1) := by decide +kernel
set_option maxRecDepth 20000 in
theorem dX5_step_15 : decode cX5_step 15 = .ok (.iadd, 1) := by decide +kernel
set_option maxRecDepth 20000 in
theorem dX5_step_16 : decode cX5_step 16 = .ok (.putfield 58, 3) := by decide +kernel
set_option maxRecDepth 20000 in
theorem dX5_step_19 : decode cX5_step 19 = .ok (.goto (-19), 3) := by decide +kernel
set_option maxRecDepth 20000 in
theorem dX5_step_22 : decode cX5_step 22 = .ok (.aload_n 0, 1) := by decide +kernel
set_option maxRecDepth 20000 in
theorem dX5_step_23 : decode cX5_step 23 = .ok (.aload_n 0, 1) := by decide +kernel
set_option maxRecDepth 20000 in
theorem dX5_step_24 : decode cX5_step 24 = .ok (.getfield 58, 3) := by decide +kernel
set_option maxRecDepth 20000 in
theorem dX5_step_27 : decode cX5_step 27 = .ok (.putfield 65, 3) := by decide +kernel
set_option maxRecDepth 20000 in
theorem dX5_step_30 : decode cX5_step 30 = .ok (.aload_n 0, 1) := by decide +kernel
set_option maxRecDepth 20000 in
theorem dX5_step_31 : decode cX5_step 31 = .ok (.iconst 0, 1) := by decide +kernel
set_option maxRecDepth 20000 in
theorem dX5_step_32 : decode cX5_step 32 = .ok (.putfield 68, 3) := by decide +kernel
set_option maxRecDepth 20000 in
theorem dX5_step_35 : decode cX5_step 35 = .ok (.aload_n 0, 1) := by decide +kernel
set_option maxRecDepth 20000 in
theorem dX5_step_36 : decode cX5_step 36 = .ok (.invokevirtual 61, 3) := by decide +kernel
set_option maxRecDepth 20000 in
theorem dX5_step_39 : decode cX5_step 39 = .ok (.istore_n 1, 1) := by decide +kernel
set_option maxRecDepth 20000 in
theorem dX5_step_40 : decode cX5_step 40 = .ok (.iload_n 1, 1) := by decide +kernel
set_option maxRecDepth 20000 in
theorem dX5_step_41 : decode cX5_step 41 = .ok (.ifCond .ge 11, 3) := by decide +kernel
set_option maxRecDepth 20000 in
theorem dX5_step_44 : decode cX5_step 44 = .ok (.aload_n 0, 1) := by decide +kernel
set_option maxRecDepth 20000 in
theorem dX5_step_45 : decode cX5_step 45 = .ok (.iconst 3, 1) := by decide +kernel
set_option maxRecDepth 20000 in
theorem dX5_step_46 : decode cX5_step 46 = .ok (.putfield 71, 3) := by decide +kernel
set_option maxRecDepth 20000 in
theorem dX5_step_49 : decode cX5_step 49 = .ok (.goto 273, 3) := by decide +kernel
set_option maxRecDepth 20000 in
theorem dX5_step_52 : decode cX5_step 52 = .ok (.iload_n 1, 1) := by decide +kernel
set_option maxRecDepth 20000 in
theorem dX5_step_53 : decode cX5_step 53 = .ok (.bipush 97, 2) := by decide +kernel
set_option maxRecDepth 20000 in
theorem dX5_step_55 : decode cX5_step 55 = .ok (.bipush 122, 2) := by decide +kernel
set_option maxRecDepth 20000 in
theorem dX5_step_57 : decode cX5_step 57 = .ok (.invokestatic 52, 3) := by decide +kernel
set_option maxRecDepth 20000 in
theorem dX5_step_60 : decode cX5_step 60 = .ok (.ifCond .eq 122, 3) := by decide +kernel
set_option maxRecDepth 20000 in
theorem dX5_step_63 : decode cX5_step 63 = .ok (.iconst 0, 1) := by decide +kernel
set_option maxRecDepth 20000 in
theorem dX5_step_64 : decode cX5_step 64 = .ok (.istore_n 2, 1) := by decide +kernel
set_option maxRecDepth 20000 in
theorem dX5_step_65 : decode cX5_step 65 = .ok (.aload_n 0, 1) := by decide +kernel
set_option maxRecDepth 20000 in
theorem dX5_step_66 : decode cX5_step 66 = .ok (.invokevirtual 61, 3) := by decide +kernel
set_option maxRecDepth 20000 in
theorem dX5_step_69 : decode cX5_step 69 = .ok (.bipush 97, 2) := by decide +kernel
set_option maxRecDepth 20000 in
theorem dX5_step_71 : decode cX5_step 71 = .ok (.bipush 122, 2) := by decide +kernel
set_option maxRecDepth 20000 in
theorem dX5_step_73 : decode cX5_step 73 = .ok (.invokestatic 52, 3) := by decide +kernel
set_option maxRecDepth 20000 in
theorem dX5_step_76 : decode cX5_step 76 = .ok (.ifCond .eq 47, 3) := by decide +kernel
set_option maxRecDepth 20000 in
theorem dX5_step_79 : decode cX5_step 79 = .ok (.aload_n 0, 1) := by decide +kernel
set_option maxRecDepth 20000 in
theorem dX5_step_80 : decode cX5_step 80 = .ok (.getfield 58, 3) := by decide +kernel
set_option maxRecDepth 20000 in
theorem dX5_step_83 : decode cX5_step 83 = .ok (.aload_n 0, 1) := by decide +kernel
set_option maxRecDepth 20000 in
theorem dX5_step_84 : decode cX5_step 84 = .ok (.getfield 65, 3) := by decide +kernel
set_option maxRecDepth 20000 in
theorem dX5_step_87 : decode cX5_step 87 = .ok (.isub, 1) := by decide +kernel
set_option maxRecDepth 20000 in
theorem dX5_step_88 : decode cX5_step 88 = .ok (.bipush 6, 2) := by decide +kernel
set_option maxRecDepth 20000 in
theorem dX5_step_90 : decode cX5_step 90 = .ok (.if_icmp .ge 18, 3) := by decide +kernel
set_option maxRecDepth 20000 in
theorem dX5_step_93 : decode cX5_step 93 = .ok (.bipush 27, 2) := by decide +kernel
set_option maxRecDepth 20000 in
theorem dX5_step_95 : decode cX5_step 95 = .ok (.iload_n 2, 1) := by decide +kernel
set_option maxRecDepth 20000 in
theorem dX5_step_96 : decode cX5_step 96 = .ok (.imul, 1) := by decide +kernel
set_option maxRecDepth 20000 in
theorem dX5_step_97 : decode cX5_step 97 = .ok (.aload_n 0, 1) := by decide +kernel
set_option maxRecDepth 20000 in
theorem dX5_step_98 : decode cX5_step 98 = .ok (.invokevirtual 61, 3) := by decide +kernel
set_option maxRecDepth 20000 in
theorem dX5_step_101 : decode cX5_step 101 = .ok (.iadd, 1) := by decide +kernel
set_option maxRecDepth 20000 in
theorem dX5_step_102 : decode cX5_step 102 = .ok (.bipush 96, 2) := by decide +kernel
set_option maxRecDepth 20000 in
theorem dX5_step_104 : decode cX5_step 104 = .ok (.isub, 1) := by decide +kernel
set_option maxRecDepth 20000 in
theorem dX5_step_105 : decode cX5_step 105 = .ok (.goto 4, 3) := by decide +kernel
set_option maxRecDepth 20000 in
theorem dX5_step_108 : decode cX5_step 108 = .ok (.iconst 0, 1) := by decide +kernel
set_option maxRecDepth 20000 in
theorem dX5_step_109 : decode cX5_step 109 = .ok (.istore_n 2, 1) := by decide +kernel
set_option maxRecDepth 20000 in
theorem dX5_step_110 : decode cX5_step 110 = .ok (.aload_n 0, 1) := by decide +kernel
set_option maxRecDepth 20000 in
theorem dX5_step_111 : decode cX5_step 111 = .ok (.dup, 1) := by decide +kernel
set_option maxRecDepth 20000 in
theorem dX5_step_112 : decode cX5_step 112 = .ok (.getfield 58, 3) := by decide +kernel
set_option maxRecDepth 20000 in
theorem dX5_step_115 : decode cX5_step 115 = .ok (.iconst 1, 1) := by decide +kernel
set_option maxRecDepth 20000 in
theorem dX5_step_116 : decode cX5_step 116 = .ok (.iadd, 1) := by decide +kernel
set_option maxRecDepth 20000 in
theorem dX5_step_117 : decode cX5_step 117 = .ok (.putfield 58, 3) := by decide +kernel
set_option maxRecDepth 20000 in
theorem dX5_step_120 : decode cX5_step 120 = .ok (.goto (-55), 3) := by decide +kernel
set_option maxRecDepth 20000 in
theorem dX5_step_123 : decode cX5_step 123 = .ok (.aload_n 0, 1) := by decide +kernel
set_option maxRecDepth 20000 in
theorem dX5_step_124 : decode cX5_step 124 = .ok (.getfield 58, 3) := by decide +kernel
set_option maxRecDepth 20000 in
theorem dX5_step_127 : decode cX5_step 127 = .ok (.aload_n 0, 1) := by decide +kernel
set_option maxRecDepth 20000 in
theorem dX5_step_128 : decode cX5_step 128 = .ok (.getfield 65, 3) := by decide +kernel
set_option maxRecDepth 20000 in
theorem dX5_step_131 : decode cX5_step 131 = .ok (.isub, 1) := by decide +kernel
set_option maxRecDepth 20000 in
theorem dX5_step_132 : decode cX5_step 132 = .ok (.bipush 6, 2) := by decide +kernel
set_option maxRecDepth 20000 in
theorem dX5_step_134 : decode cX5_step 134 = .ok (.if_icmp .le 7, 3) := by decide +kernel
set_option maxRecDepth 20000 in
theorem dX5_step_137 : decode cX5_step 137 = .ok (.iconst 0, 1) := by decide +kernel
set_option maxRecDepth 20000 in
theorem dX5_step_138 : decode cX5_step 138 = .ok (.goto 4, 3) := by decide +kernel
set_option maxRecDepth 20000 in
theorem dX5_step_141 : decode cX5_step 141 = .ok (.iload_n 2, 1) := by decide +kernel
set_option maxRecDepth 20000 in
theorem dX5_step_142 : decode cX5_step 142 = .ok (.istore_n 2, 1) := by decide +kernel
set_option maxRecDepth 20000 in
theorem dX5_step_143 : decode cX5_step 143 = .ok (.aload_n 0, 1) := by decide +kernel
set_option maxRecDepth 20000 in
theorem dX5_step_144 : decode cX5_step 144 = .ok (.iload_n 2, 1) := by decide +kernel
set_option maxRecDepth 20000 in
theorem dX5_step_145 : decode cX5_step 145 = .ok (.ldc 74, 2) := by decide +kernel
set_option maxRecDepth 20000 in
theorem dX5_step_147 : decode cX5_step 147 = .ok (.if_icmp .ne 7, 3) := by decide +kernel
set_option maxRecDepth 20000 in
theorem dX5_step_150 : decode cX5_step 150 = .ok (.iconst 0, 1) := by decide +kernel
set_option maxRecDepth 20000 in
theorem dX5_step_151 : decode cX5_step 151 = .ok (.goto 25, 3) := by decide +kernel
set_option maxRecDepth 20000 in
theorem dX5_step_154 : decode cX5_step 154 = .ok (.iload_n 2, 1) := by decide +kernel
set_option maxRecDepth 20000 in
theorem dX5_step_155 : decode cX5_step 155 = .ok (.ldc 75, 2) := by decide +kernel
set_option maxRecDepth 20000 in
theorem dX5_step_157 : decode cX5_step 157 = .ok (.if_icmp .ne 7, 3) := by decide +kernel
set_option maxRecDepth 20000 in
theorem dX5_step_160 : decode cX5_step 160 = .ok (.iconst 1, 1) := by decide +kernel
set_option maxRecDepth 20000 in
theorem dX5_step_161 : decode cX5_step 161 = .ok (.goto 15, 3) := by decide +kernel
set_option maxRecDepth 20000 in
theorem dX5_step_164 : decode cX5_step 164 = .ok (.iload_n 2, 1) := by decide +kernel
set_option maxRecDepth 20000 in
theorem dX5_step_165 : decode cX5_step 165 = .ok (.ldc 76, 2) := by decide +kernel
set_option maxRecDepth 20000 in
theorem dX5_step_167 : decode cX5_step 167 = .ok (.if_icmp .ne 7, 3) := by decide +kernel
set_option maxRecDepth 20000 in
theorem dX5_step_170 : decode cX5_step 170 = .ok (.iconst 2, 1) := by decide +kernel
set_option maxRecDepth 20000 in
theorem dX5_step_171 : decode cX5_step 171 = .ok (.goto 5, 3) := by decide +kernel
set_option maxRecDepth 20000 in
theorem dX5_step_174 : decode cX5_step 174 = .ok (.bipush 6, 2) := by decide +kernel
set_option maxRecDepth 20000 in
theorem dX5_step_176 : decode cX5_step 176 = .ok (.putfield 71, 3) := by decide +kernel
set_option maxRecDepth 20000 in
theorem dX5_step_179 : decode cX5_step 179 = .ok (.goto 143, 3) := by decide +kernel
set_option maxRecDepth 20000 in
theorem dX5_step_182 : decode cX5_step 182 = .ok (.iload_n 1, 1) := by decide +kernel
set_option maxRecDepth 20000 in
theorem dX5_step_183 : decode cX5_step 183 = .ok (.bipush 48, 2) := by decide +kernel
set_option maxRecDepth 20000 in
theorem dX5_step_185 : decode cX5_step 185 = .ok (.bipush 57, 2) := by decide +kernel
set_option maxRecDepth 20000 in
theorem dX5_step_187 : decode cX5_step 187 = .ok (.invokestatic 52, 3) := by decide +kernel
set_option maxRecDepth 20000 in
theorem dX5_step_190 : decode cX5_step 190 = .ok (.ifCond .eq 106, 3) := by decide +kernel
set_option maxRecDepth 20000 in
theorem dX5_step_193 : decode cX5_step 193 = .ok (.aload_n 0, 1) := by decide +kernel
set_option maxRecDepth 20000 in
theorem dX5_step_194 : decode cX5_step 194 = .ok (.invokevirtual 61, 3) := by decide +kernel
set_option maxRecDepth 20000 in
theorem dX5_step_197 : decode cX5_step 197 = .ok (.bipush 48, 2) := by decide +kernel
set_option maxRecDepth 20000 in
theorem dX5_step_199 : decode cX5_step 199 = .ok (.bipush 57, 2) := by decide +kernel
set_option maxRecDepth 20000 in
theorem dX5_step_201 : decode cX5_step 201 = .ok (.invokestatic 52, 3) := by decide +kernel
set_option maxRecDepth 20000 in
theorem dX5_step_204 : decode cX5_step 204 = .ok (.ifCond .eq 51, 3) := by decide +kernel
set_option maxRecDepth 20000 in
theorem dX5_step_207 : decode cX5_step 207 = .ok (.aload_n 0, 1) := by decide +kernel
set_option maxRecDepth 20000 in
theorem dX5_step_208 : decode cX5_step 208 = .ok (.aload_n 0, 1) := by decide +kernel
set_option maxRecDepth 20000 in
theorem dX5_step_209 : decode cX5_step 209 = .ok (.getfield 68, 3) := by decide +kernel
set_option maxRecDepth 20000 in
theorem dX5_step_212 : decode cX5_step 212 = .ok (.bipush 99, 2) := by decide +kernel
set_option maxRecDepth 20000 in
theorem dX5_step_214 : decode cX5_step 214 = .ok (.if_icmp .le 10, 3) := by decide +kernel
set_option maxRecDepth 20000 in
theorem dX5_step_217 : decode cX5_step 217 = .ok (.aload_n 0, 1) := by decide +kernel
set_option maxRecDepth 20000 in
theorem dX5_step_218 : decode cX5_step 218 = .ok (.getfield 68, 3) := by decide +kernel
set_option maxRecDepth 20000 in
theorem dX5_step_221 : decode cX5_step 221 = .ok (.goto 18, 3) := by decide +kernel
set_option maxRecDepth 20000 in
theorem dX5_step_224 : decode cX5_step 224 = .ok (.bipush 10, 2) := by decide +kernel
set_option maxRecDepth 20000 in
theorem dX5_step_226 : decode cX5_step 226 = .ok (.aload_n 0, 1) := by decide +kernel
set_option maxRecDepth 20000 in
theorem dX5_step_227 : decode cX5_step 227 = .ok (.getfield 68, 3) := by decide +kernel
set_option maxRecDepth 20000 in
theorem dX5_step_230 : decode cX5_step 230 = .ok (.imul, 1) := by decide +kernel
set_option maxRecDepth 20000 in
theorem dX5_step_231 : decode cX5_step 231 = .ok (.aload_n 0, 1) := by decide +kernel
set_option maxRecDepth 20000 in
theorem dX5_step_232 : decode cX5_step 232 = .ok (.invokevirtual 61, 3) := by decide +kernel
set_option maxRecDepth 20000 in
theorem dX5_step_235 : decode cX5_step 235 = .ok (.iadd, 1) := by decide +kernel
set_option maxRecDepth 20000 in
theorem dX5_step_236 : decode cX5_step 236 = .ok (.bipush 48, 2) := by decide +kernel
set_option maxRecDepth 20000 in
theorem dX5_step_238 : decode cX5_step 238 = .ok (.isub, 1) := by decide +kernel
set_option maxRecDepth 20000 in
theorem dX5_step_239 : decode cX5_step 239 = .ok (.putfield 68, 3) := by decide +kernel
set_option maxRecDepth 20000 in
theorem dX5_step_242 : decode cX5_step 242 = .ok (.aload_n 0, 1) := by decide +kernel
set_option maxRecDepth 20000 in
theorem dX5_step_243 : decode cX5_step 243 = .ok (.dup, 1) := by decide +kernel
set_option maxRecDepth 20000 in
theorem dX5_step_244 : decode cX5_step 244 = .ok (.getfield 58, 3) := by decide +kernel
set_option maxRecDepth 20000 in
theorem dX5_step_247 : decode cX5_step 247 = .ok (.iconst 1, 1) := by decide +kernel
set_option maxRecDepth 20000 in
theorem dX5_step_248 : decode cX5_step 248 = .ok (.iadd, 1) := by decide +kernel
set_option maxRecDepth 20000 in
theorem dX5_step_249 : decode cX5_step 249 = .ok (.putfield 58, 3) := by decide +kernel
set_option maxRecDepth 20000 in
theorem dX5_step_252 : decode cX5_step 252 = .ok (.goto (-59), 3) := by decide +kernel
set_option maxRecDepth 20000 in
theorem dX5_step_255 : decode cX5_step 255 = .ok (.aload_n 0, 1) := by decide +kernel
set_option maxRecDepth 20000 in
theorem dX5_step_256 : decode cX5_step 256 = .ok (.aload_n 0, 1) := by decide +kernel
set_option maxRecDepth 20000 in
theorem dX5_step_257 : decode cX5_step 257 = .ok (.getfield 68, 3) := by decide +kernel
set_option maxRecDepth 20000 in
theorem dX5_step_260 : decode cX5_step 260 = .ok (.bipush 99, 2) := by decide +kernel
set_option maxRecDepth 20000 in
theorem dX5_step_262 : decode cX5_step 262 = .ok (.if_icmp .gt 22, 3) := by decide +kernel
set_option maxRecDepth 20000 in
theorem dX5_step_265 : decode cX5_step 265 = .ok (.iload_n 1, 1) := by decide +kernel
set_option maxRecDepth 20000 in
theorem dX5_step_266 : decode cX5_step 266 = .ok (.bipush 48, 2) := by decide +kernel
set_option maxRecDepth 20000 in
theorem dX5_step_268 : decode cX5_step 268 = .ok (.if_icmp .ne 21, 3) := by decide +kernel
set_option maxRecDepth 20000 in
theorem dX5_step_271 : decode cX5_step 271 = .ok (.aload_n 0, 1) := by decide +kernel
set_option maxRecDepth 20000 in
theorem dX5_step_272 : decode cX5_step 272 = .ok (.getfield 58, 3) := by decide +kernel
set_option maxRecDepth 20000 in
theorem dX5_step_275 : decode cX5_step 275 = .ok (.aload_n 0, 1) := by decide +kernel
set_option maxRecDepth 20000 in
theorem dX5_step_276 : decode cX5_step 276 = .ok (.getfield 65, 3) := by decide +kernel
set_option maxRecDepth 20000 in
theorem dX5_step_279 : decode cX5_step 279 = .ok (.isub, 1) := by decide +kernel
set_option maxRecDepth 20000 in
theorem dX5_step_280 : decode cX5_step 280 = .ok (.iconst 1, 1) := by decide +kernel
set_option maxRecDepth 20000 in
theorem dX5_step_281 : decode cX5_step 281 = .ok (.if_icmp .le 8, 3) := by decide +kernel
set_option maxRecDepth 20000 in
theorem dX5_step_284 : decode cX5_step 284 = .ok (.bipush 6, 2) := by decide +kernel
set_option maxRecDepth 20000 in
theorem dX5_step_286 : decode cX5_step 286 = .ok (.goto 4, 3) := by decide +kernel
set_option maxRecDepth 20000 in
theorem dX5_step_289 : decode cX5_step 289 = .ok (.iconst 4, 1) := by decide +kernel
set_option maxRecDepth 20000 in
theorem dX5_step_290 : decode cX5_step 290 = .ok (.putfield 71, 3) := by decide +kernel
set_option maxRecDepth 20000 in
theorem dX5_step_293 : decode cX5_step 293 = .ok (.goto 29, 3) := by decide +kernel
set_option maxRecDepth 20000 in
theorem dX5_step_296 : decode cX5_step 296 = .ok (.aload_n 0, 1) := by decide +kernel
set_option maxRecDepth 20000 in
theorem dX5_step_297 : decode cX5_step 297 = .ok (.dup, 1) := by decide +kernel
set_option maxRecDepth 20000 in
theorem dX5_step_298 : decode cX5_step 298 = .ok (.getfield 58, 3) := by decide +kernel
set_option maxRecDepth 20000 in
theorem dX5_step_301 : decode cX5_step 301 = .ok (.iconst 1, 1) := by decide +kernel
set_option maxRecDepth 20000 in
theorem dX5_step_302 : decode cX5_step 302 = .ok (.iadd, 1) := by decide +kernel
set_option maxRecDepth 20000 in
theorem dX5_step_303 : decode cX5_step 303 = .ok (.putfield 58, 3) := by decide +kernel
set_option maxRecDepth 20000 in
theorem dX5_step_306 : decode cX5_step 306 = .ok (.aload_n 0, 1) := by decide +kernel
set_option maxRecDepth 20000 in
theorem dX5_step_307 : decode cX5_step 307 = .ok (.iload_n 1, 1) := by decide +kernel
set_option maxRecDepth 20000 in
theorem dX5_step_308 : decode cX5_step 308 = .ok (.bipush 59, 2) := by decide +kernel
set_option maxRecDepth 20000 in
theorem dX5_step_310 : decode cX5_step 310 = .ok (.if_icmp .ne 7, 3) := by decide +kernel
set_option maxRecDepth 20000 in
theorem dX5_step_313 : decode cX5_step 313 = .ok (.iconst 5, 1) := by decide +kernel
set_option maxRecDepth 20000 in
theorem dX5_step_314 : decode cX5_step 314 = .ok (.goto 5, 3) := by decide +kernel
set_option maxRecDepth 20000 in
theorem dX5_step_317 : decode cX5_step 317 = .ok (.bipush 6, 2) := by decide +kernel
set_option maxRecDepth 20000 in
theorem dX5_step_319 : decode cX5_step 319 = .ok (.putfield 71, 3) := by decide +kernel
set_option maxRecDepth 20000 in
theorem dX5_step_322 : decode cX5_step 322 = .ok (.return_, 1) := by decide +kernel
set_option maxRecDepth 20000 in
theorem dX5_due_0 : decode cX5_due 0 = .ok (.aload_n 0, 1) := by decide +kernel
set_option maxRecDepth 20000 in
theorem dX5_due_1 : decode cX5_due 1 = .ok (.getfield 68, 3) := by decide +kernel
set_option maxRecDepth 20000 in
theorem dX5_due_4 : decode cX5_due 4 = .ok (.istore_n 2, 1) := by decide +kernel
set_option maxRecDepth 20000 in
theorem dX5_due_5 : decode cX5_due 5 = .ok (.aload_n 0, 1) := by decide +kernel
set_option maxRecDepth 20000 in
theorem dX5_due_6 : decode cX5_due 6 = .ok (.getfield 77, 3) := by decide +kernel
set_option maxRecDepth 20000 in
theorem dX5_due_9 : decode cX5_due 9 = .ok (.bipush (-9), 2) := by decide +kernel
set_option maxRecDepth 20000 in
theorem dX5_due_11 : decode cX5_due 11 = .ok (.if_icmp .ne 22, 3) := by decide +kernel
set_option maxRecDepth 20000 in
theorem dX5_due_14 : decode cX5_due 14 = .ok (.iload_n 1, 1) := by decide +kernel
set_option maxRecDepth 20000 in
theorem dX5_due_15 : decode cX5_due 15 = .ok (.ifCond .eq 10, 3) := by decide +kernel
set_option maxRecDepth 20000 in
theorem dX5_due_18 : decode cX5_due 18 = .ok (.aload_n 0, 1) := by decide +kernel
set_option maxRecDepth 20000 in
theorem dX5_due_19 : decode cX5_due 19 = .ok (.invokevirtual 80, 3) := by decide +kernel
set_option maxRecDepth 20000 in
theorem dX5_due_22 : decode cX5_due 22 = .ok (.goto 11, 3) := by decide +kernel
set_option maxRecDepth 20000 in
theorem dX5_due_25 : decode cX5_due 25 = .ok (.aload_n 0, 1) := by decide +kernel
set_option maxRecDepth 20000 in
theorem dX5_due_26 : decode cX5_due 26 = .ok (.aload_n 0, 1) := by decide +kernel
set_option maxRecDepth 20000 in
theorem dX5_due_27 : decode cX5_due 27 = .ok (.getfield 65, 3) := by decide +kernel
set_option maxRecDepth 20000 in
theorem dX5_due_30 : decode cX5_due 30 = .ok (.putfield 77, 3) := by decide +kernel
set_option maxRecDepth 20000 in
theorem dX5_due_33 : decode cX5_due 33 = .ok (.iload_n 2, 1) := by decide +kernel
set_option maxRecDepth 20000 in
theorem dX5_due_34 : decode cX5_due 34 = .ok (.ireturn, 1) := by decide +kernel
set_option maxRecDepth 20000 in
theorem dX5_number_0 : decode cX5_number 0 = .ok (.aload_n 0, 1) := by decide +kernel
set_option maxRecDepth 20000 in
theorem dX5_number_1 : decode cX5_number 1 = .ok (.aload_n 0, 1) := by decide +kernel
set_option maxRecDepth 20000 in
theorem dX5_number_2 : decode cX5_number 2 = .ok (.getfield 71, 3) := by decide +kernel
set_option maxRecDepth 20000 in
theorem dX5_number_5 : decode cX5_number 5 = .ok (.iconst 4, 1) := by decide +kernel
set_option maxRecDepth 20000 in
theorem dX5_number_6 : decode cX5_number 6 = .ok (.if_icmp .ne 19, 3) := by decide +kernel
set_option maxRecDepth 20000 in
theorem dX5_number_9 : decode cX5_number 9 = .ok (.aload_n 0, 1) := by decide +kernel
set_option maxRecDepth 20000 in
theorem dX5_number_10 : decode cX5_number 10 = .ok (.getfield 68, 3) := by decide +kernel
set_option maxRecDepth 20000 in
theorem dX5_number_13 : decode cX5_number 13 = .ok (.iload_n 1, 1) := by decide +kernel
set_option maxRecDepth 20000 in
theorem dX5_number_14 : decode cX5_number 14 = .ok (.iload_n 2, 1) := by decide +kernel
set_option maxRecDepth 20000 in
theorem dX5_number_15 : decode cX5_number 15 = .ok (.invokestatic 52, 3) := by decide +kernel
set_option maxRecDepth 20000 in
theorem dX5_number_18 : decode cX5_number 18 = .ok (.ifCond .eq 7, 3) := by decide +kernel
set_option maxRecDepth 20000 in
theorem dX5_number_21 : decode cX5_number 21 = .ok (.iconst 1, 1) := by decide +kernel
set_option maxRecDepth 20000 in
theorem dX5_number_22 : decode cX5_number 22 = .ok (.goto 4, 3) := by decide +kernel
set_option maxRecDepth 20000 in
theorem dX5_number_25 : decode cX5_number 25 = .ok (.iconst 0, 1) := by decide +kernel
set_option maxRecDepth 20000 in
theorem dX5_number_26 : decode cX5_number 26 = .ok (.invokevirtual 83, 3) := by decide +kernel
set_option maxRecDepth 20000 in
theorem dX5_number_29 : decode cX5_number 29 = .ok (.ireturn, 1) := by decide +kernel
set_option maxRecDepth 20000 in
theorem dX5_readItem_0 : decode cX5_readItem 0 = .ok (.aload_n 0, 1) := by decide +kernel
set_option maxRecDepth 20000 in
theorem dX5_readItem_1 : decode cX5_readItem 1 = .ok (.getfield 71, 3) := by decide +kernel
set_option maxRecDepth 20000 in
theorem dX5_readItem_4 : decode cX5_readItem 4 = .ok (.istore_n 1, 1) := by decide +kernel
set_option maxRecDepth 20000 in
theorem dX5_readItem_5 : decode cX5_readItem 5 = .ok (.aload_n 0, 1) := by decide +kernel
set_option maxRecDepth 20000 in
theorem dX5_readItem_6 : decode cX5_readItem 6 = .ok (.iload_n 1, 1) := by decide +kernel
set_option maxRecDepth 20000 in
theorem dX5_readItem_7 : decode cX5_readItem 7 = .ok (.ifCond .ne 13, 3) := by decide +kernel
set_option maxRecDepth 20000 in
theorem dX5_readItem_10 : decode cX5_readItem 10 = .ok (.aload_n 0, 1) := by decide +kernel
set_option maxRecDepth 20000 in
theorem dX5_readItem_11 : decode cX5_readItem 11 = .ok (.getfield 13, 3) := by decide +kernel
set_option maxRecDepth 20000 in
theorem dX5_readItem_14 : decode cX5_readItem 14 = .ok (.iconst 1, 1) := by decide +kernel
set_option maxRecDepth 20000 in
theorem dX5_readItem_15 : decode cX5_readItem 15 = .ok (.iaload, 1) := by decide +kernel
set_option maxRecDepth 20000 in
theorem dX5_readItem_16 : decode cX5_readItem 16 = .ok (.iconst 5, 1) := by decide +kernel
set_option maxRecDepth 20000 in
theorem dX5_readItem_17 : decode cX5_readItem 17 = .ok (.if_icmp .lt 31, 3) := by decide +kernel
set_option maxRecDepth 20000 in
theorem dX5_readItem_20 : decode cX5_readItem 20 = .ok (.iload_n 1, 1) := by decide +kernel
set_option maxRecDepth 20000 in
theorem dX5_readItem_21 : decode cX5_readItem 21 = .ok (.iconst 1, 1) := by decide +kernel
set_option maxRecDepth 20000 in
theorem dX5_readItem_22 : decode cX5_readItem 22 = .ok (.if_icmp .ne 14, 3) := by decide +kernel
set_option maxRecDepth 20000 in
theorem dX5_readItem_25 : decode cX5_readItem 25 = .ok (.aload_n 0, 1) := by decide +kernel
set_option maxRecDepth 20000 in
theorem dX5_readItem_26 : decode cX5_readItem 26 = .ok (.getfield 20, 3) := by decide +kernel
set_option maxRecDepth 20000 in
theorem dX5_readItem_29 : decode cX5_readItem 29 = .ok (.iconst 1, 1) := by decide +kernel
set_option maxRecDepth 20000 in
theorem dX5_readItem_30 : decode cX5_readItem 30 = .ok (.iaload, 1) := by decide +kernel
set_option maxRecDepth 20000 in
theorem dX5_readItem_31 : decode cX5_readItem 31 = .ok (.bipush 6, 2) := by decide +kernel
set_option maxRecDepth 20000 in
theorem dX5_readItem_33 : decode cX5_readItem 33 = .ok (.if_icmp .lt 15, 3) := by decide +kernel
set_option maxRecDepth 20000 in
theorem dX5_readItem_36 : decode cX5_readItem 36 = .ok (.iload_n 1, 1) := by decide +kernel
set_option maxRecDepth 20000 in
theorem dX5_readItem_37 : decode cX5_readItem 37 = .ok (.iconst 2, 1) := by decide +kernel
set_option maxRecDepth 20000 in
theorem dX5_readItem_38 : decode cX5_readItem 38 = .ok (.if_icmp .ne 14, 3) := by decide +kernel
set_option maxRecDepth 20000 in
theorem dX5_readItem_41 : decode cX5_readItem 41 = .ok (.aload_n 0, 1) := by decide +kernel
set_option maxRecDepth 20000 in
theorem dX5_readItem_42 : decode cX5_readItem 42 = .ok (.getfield 87, 3) := by decide +kernel
set_option maxRecDepth 20000 in
theorem dX5_readItem_45 : decode cX5_readItem 45 = .ok (.ifCond .ne 7, 3) := by decide +kernel
set_option maxRecDepth 20000 in
theorem dX5_readItem_48 : decode cX5_readItem 48 = .ok (.iconst 1, 1) := by decide +kernel
set_option maxRecDepth 20000 in
theorem dX5_readItem_49 : decode cX5_readItem 49 = .ok (.goto 4, 3) := by decide +kernel
set_option maxRecDepth 20000 in
theorem dX5_readItem_52 : decode cX5_readItem 52 = .ok (.iconst 0, 1) := by decide +kernel
set_option maxRecDepth 20000 in
theorem dX5_readItem_53 : decode cX5_readItem 53 = .ok (.invokevirtual 83, 3) := by decide +kernel
set_option maxRecDepth 20000 in
theorem dX5_readItem_56 : decode cX5_readItem 56 = .ok (.pop, 1) := by decide +kernel
set_option maxRecDepth 20000 in
theorem dX5_readItem_57 : decode cX5_readItem 57 = .ok (.aload_n 0, 1) := by decide +kernel
set_option maxRecDepth 20000 in
theorem dX5_readItem_58 : decode cX5_readItem 58 = .ok (.getfield 77, 3) := by decide +kernel
set_option maxRecDepth 20000 in
theorem dX5_readItem_61 : decode cX5_readItem 61 = .ok (.bipush (-9), 2) := by decide +kernel
set_option maxRecDepth 20000 in
theorem dX5_readItem_63 : decode cX5_readItem 63 = .ok (.if_icmp .eq 4, 3) := by decide +kernel
set_option maxRecDepth 20000 in
theorem dX5_readItem_66 : decode cX5_readItem 66 = .ok (.return_, 1) := by decide +kernel
set_option maxRecDepth 20000 in
theorem dX5_readItem_67 : decode cX5_readItem 67 = .ok (.iload_n 1, 1) := by decide +kernel
set_option maxRecDepth 20000 in
theorem dX5_readItem_68 : decode cX5_readItem 68 = .ok (.ifCond .ne 36, 3) := by decide +kernel
set_option maxRecDepth 20000 in
theorem dX5_readItem_71 : decode cX5_readItem 71 = .ok (.aload_n 0, 1) := by decide +kernel
set_option maxRecDepth 20000 in
theorem dX5_readItem_72 : decode cX5_readItem 72 = .ok (.getfield 17, 3) := by decide +kernel
set_option maxRecDepth 20000 in
theorem dX5_readItem_75 : decode cX5_readItem 75 = .ok (.iconst 5, 1) := by decide +kernel
set_option maxRecDepth 20000 in
theorem dX5_readItem_76 : decode cX5_readItem 76 = .ok (.aload_n 0, 1) := by decide +kernel
set_option maxRecDepth 20000 in
theorem dX5_readItem_77 : decode cX5_readItem 77 = .ok (.getfield 13, 3) := by decide +kernel
set_option maxRecDepth 20000 in
theorem dX5_readItem_80 : decode cX5_readItem 80 = .ok (.iconst 1, 1) := by decide +kernel
set_option maxRecDepth 20000 in
theorem dX5_readItem_81 : decode cX5_readItem 81 = .ok (.iaload, 1) := by decide +kernel
set_option maxRecDepth 20000 in
theorem dX5_readItem_82 : decode cX5_readItem 82 = .ok (.iadd, 1) := by decide +kernel
set_option maxRecDepth 20000 in
theorem dX5_readItem_83 : decode cX5_readItem 83 = .ok (.aload_n 0, 1) := by decide +kernel
set_option maxRecDepth 20000 in
theorem dX5_readItem_84 : decode cX5_readItem 84 = .ok (.iconst 0, 1) := by decide +kernel
set_option maxRecDepth 20000 in
theorem dX5_readItem_85 : decode cX5_readItem 85 = .ok (.bipush 60, 2) := by decide +kernel
set_option maxRecDepth 20000 in
theorem dX5_readItem_87 : decode cX5_readItem 87 = .ok (.invokevirtual 91, 3) := by decide +kernel
set_option maxRecDepth 20000 in
theorem dX5_readItem_90 : decode cX5_readItem 90 = .ok (.iastore, 1) := by decide +kernel
set_option maxRecDepth 20000 in
theorem dX5_readItem_91 : decode cX5_readItem 91 = .ok (.aload_n 0, 1) := by decide +kernel
set_option maxRecDepth 20000 in
theorem dX5_readItem_92 : decode cX5_readItem 92 = .ok (.getfield 13, 3) := by decide +kernel
set_option maxRecDepth 20000 in
theorem dX5_readItem_95 : decode cX5_readItem 95 = .ok (.iconst 1, 1) := by decide +kernel
set_option maxRecDepth 20000 in
theorem dX5_readItem_96 : decode cX5_readItem 96 = .ok (.dup2, 1) := by decide +kernel
set_option maxRecDepth 20000 in
theorem dX5_readItem_97 : decode cX5_readItem 97 = .ok (.iaload, 1) := by decide +kernel
set_option maxRecDepth 20000 in
theorem dX5_readItem_98 : decode cX5_readItem 98 = .ok (.iconst 1, 1) := by decide +kernel
set_option maxRecDepth 20000 in
theorem dX5_readItem_99 : decode cX5_readItem 99 = .ok (.iadd, 1) := by decide +kernel
set_option maxRecDepth 20000 in
theorem dX5_readItem_100 : decode cX5_readItem 100 = .ok (.iastore, 1) := by decide +kernel
set_option maxRecDepth 20000 in
theorem dX5_readItem_101 : decode cX5_readItem 101 = .ok (.goto 100, 3) := by decide +kernel
set_option maxRecDepth 20000 in
theorem dX5_readItem_104 : decode cX5_readItem 104 = .ok (.iload_n 1, 1) := by decide +kernel
set_option maxRecDepth 20000 in
theorem dX5_readItem_105 : decode cX5_readItem 105 = .ok (.iconst 1, 1) := by decide +kernel
set_option maxRecDepth 20000 in
theorem dX5_readItem_106 : decode cX5_readItem 106 = .ok (.if_icmp .ne 77, 3) := by decide +kernel
set_option maxRecDepth 20000 in
theorem dX5_readItem_109 : decode cX5_readItem 109 = .ok (.bipush 6, 2) := by decide +kernel
set_option maxRecDepth 20000 in
theorem dX5_readItem_111 : decode cX5_readItem 111 = .ok (.aload_n 0, 1) := by decide +kernel
set_option maxRecDepth 20000 in
theorem dX5_readItem_112 : decode cX5_readItem 112 = .ok (.getfield 20, 3) := by decide +kernel
set_option maxRecDepth 20000 in
theorem dX5_readItem_115 : decode cX5_readItem 115 = .ok (.iconst 1, 1) := by decide +kernel
set_option maxRecDepth 20000 in
theorem dX5_readItem_116 : decode cX5_readItem 116 = .ok (.iaload, 1) := by decide +kernel
set_option maxRecDepth 20000 in
theorem dX5_readItem_117 : decode cX5_readItem 117 = .ok (.iadd, 1) := by decide +kernel
set_option maxRecDepth 20000 in
theorem dX5_readItem_118 : decode cX5_readItem 118 = .ok (.istore_n 2, 1) := by decide +kernel
set_option maxRecDepth 20000 in
theorem dX5_readItem_119 : decode cX5_readItem 119 = .ok (.aload_n 0, 1) := by decide +kernel
set_option maxRecDepth 20000 in
theorem dX5_readItem_120 : decode cX5_readItem 120 = .ok (.getfield 23, 3) := by decide +kernel
set_option maxRecDepth 20000 in
theorem dX5_readItem_123 : decode cX5_readItem 123 = .ok (.iload_n 2, 1) := by decide +kernel
set_option maxRecDepth 20000 in
theorem dX5_readItem_124 : decode cX5_readItem 124 = .ok (.aload_n 0, 1) := by decide +kernel
set_option maxRecDepth 20000 in
theorem dX5_readItem_125 : decode cX5_readItem 125 = .ok (.iconst 1, 1) := by decide +kernel
set_option maxRecDepth 20000 in
theorem dX5_readItem_126 : decode cX5_readItem 126 = .ok (.bipush 9, 2) := by decide +kernel
set_option maxRecDepth 20000 in
theorem dX5_readItem_128 : decode cX5_readItem 128 = .ok (.invokevirtual 91, 3) := by decide +kernel
set_option maxRecDepth 20000 in
theorem dX5_readItem_131 : decode cX5_readItem 131 = .ok (.iastore, 1) := by decide +kernel
set_option maxRecDepth 20000 in
theorem dX5_readItem_132 : decode cX5_readItem 132 = .ok (.aload_n 0, 1) := by decide +kernel
set_option maxRecDepth 20000 in
theorem dX5_readItem_133 : decode cX5_readItem 133 = .ok (.getfield 26, 3) := by decide +kernel
set_option maxRecDepth 20000 in
theorem dX5_readItem_136 : decode cX5_readItem 136 = .ok (.iload_n 2, 1) := by decide +kernel
set_option maxRecDepth 20000 in
theorem dX5_readItem_137 : decode cX5_readItem 137 = .ok (.aload_n 0, 1) := by decide +kernel
set_option maxRecDepth 20000 in
theorem dX5_readItem_138 : decode cX5_readItem 138 = .ok (.iconst 0, 1) := by decide +kernel
set_option maxRecDepth 20000 in
theorem dX5_readItem_139 : decode cX5_readItem 139 = .ok (.bipush 9, 2) := by decide +kernel
set_option maxRecDepth 20000 in
theorem dX5_readItem_141 : decode cX5_readItem 141 = .ok (.invokevirtual 91, 3) := by decide +kernel
set_option maxRecDepth 20000 in
theorem dX5_readItem_144 : decode cX5_readItem 144 = .ok (.iastore, 1) := by decide +kernel
set_option maxRecDepth 20000 in
theorem dX5_readItem_145 : decode cX5_readItem 145 = .ok (.aload_n 0, 1) := by decide +kernel
set_option maxRecDepth 20000 in
theorem dX5_readItem_146 : decode cX5_readItem 146 = .ok (.getfield 29, 3) := by decide +kernel
set_option maxRecDepth 20000 in
theorem dX5_readItem_149 : decode cX5_readItem 149 = .ok (.iload_n 2, 1) := by decide +kernel
set_option maxRecDepth 20000 in
theorem dX5_readItem_150 : decode cX5_readItem 150 = .ok (.aload_n 0, 1) := by decide +kernel
set_option maxRecDepth 20000 in
theorem dX5_readItem_151 : decode cX5_readItem 151 = .ok (.iconst 1, 1) := by decide +kernel
set_option maxRecDepth 20000 in
theorem dX5_readItem_152 : decode cX5_readItem 152 = .ok (.bipush 9, 2) := by decide +kernel
set_option maxRecDepth 20000 in
theorem dX5_readItem_154 : decode cX5_readItem 154 = .ok (.invokevirtual 91, 3) := by decide +kernel
set_option maxRecDepth 20000 in
theorem dX5_readItem_157 : decode cX5_readItem 157 = .ok (.iastore, 1) := by decide +kernel
set_option maxRecDepth 20000 in
theorem dX5_readItem_158 : decode cX5_readItem 158 = .ok (.aload_n 0, 1) := by decide +kernel
set_option maxRecDepth 20000 in
theorem dX5_readItem_159 : decode cX5_readItem 159 = .ok (.getfield 32, 3) := by decide +kernel
set_option maxRecDepth 20000 in
theorem dX5_readItem_162 : decode cX5_readItem 162 = .ok (.iload_n 2, 1) := by decide +kernel
set_option maxRecDepth 20000 in
theorem dX5_readItem_163 : decode cX5_readItem 163 = .ok (.aload_n 0, 1) := by decide +kernel
set_option maxRecDepth 20000 in
theorem dX5_readItem_164 : decode cX5_readItem 164 = .ok (.iconst 0, 1) := by decide +kernel
set_option maxRecDepth 20000 in
theorem dX5_readItem_165 : decode cX5_readItem 165 = .ok (.iconst 3, 1) := by decide +kernel
set_option maxRecDepth 20000 in
theorem dX5_readItem_166 : decode cX5_readItem 166 = .ok (.invokevirtual 91, 3) := by decide +kernel
set_option maxRecDepth 20000 in
theorem dX5_readItem_169 : decode cX5_readItem 169 = .ok (.iastore, 1) := by decide +kernel
set_option maxRecDepth 20000 in
theorem dX5_readItem_170 : decode cX5_readItem 170 = .ok (.aload_n 0, 1) := by decide +kernel
set_option maxRecDepth 20000 in
theorem dX5_readItem_171 : decode cX5_readItem 171 = .ok (.getfield 20, 3) := by decide +kernel
set_option maxRecDepth 20000 in
theorem dX5_readItem_174 : decode cX5_readItem 174 = .ok (.iconst 1, 1) := by decide +kernel
set_option maxRecDepth 20000 in
theorem dX5_readItem_175 : decode cX5_readItem 175 = .ok (.dup2, 1) := by decide +kernel
set_option maxRecDepth 20000 in
theorem dX5_readItem_176 : decode cX5_readItem 176 = .ok (.iaload, 1) := by decide +kernel
set_option maxRecDepth 20000 in
theorem dX5_readItem_177 : decode cX5_readItem 177 = .ok (.iconst 1, 1) := by decide +kernel
set_option maxRecDepth 20000 in
theorem dX5_readItem_178 : decode cX5_readItem 178 = .ok (.iadd, 1) := by decide +kernel
set_option maxRecDepth 20000 in
theorem dX5_readItem_179 : decode cX5_readItem 179 = .ok (.iastore, 1) := by decide +kernel
set_option maxRecDepth 20000 in
theorem dX5_readItem_180 : decode cX5_readItem 180 = .ok (.goto 21, 3) := by decide +kernel
set_option maxRecDepth 20000 in
theorem dX5_readItem_183 : decode cX5_readItem 183 = .ok (.aload_n 0, 1) := by decide +kernel
set_option maxRecDepth 20000 in
theorem dX5_readItem_184 : decode cX5_readItem 184 = .ok (.getfield 35, 3) := by decide +kernel
set_option maxRecDepth 20000 in
theorem dX5_readItem_187 : decode cX5_readItem 187 = .ok (.iconst 1, 1) := by decide +kernel
set_option maxRecDepth 20000 in
theorem dX5_readItem_188 : decode cX5_readItem 188 = .ok (.aload_n 0, 1) := by decide +kernel
set_option maxRecDepth 20000 in
theorem dX5_readItem_189 : decode cX5_readItem 189 = .ok (.iconst 0, 1) := by decide +kernel
set_option maxRecDepth 20000 in
theorem dX5_readItem_190 : decode cX5_readItem 190 = .ok (.bipush 9, 2) := by decide +kernel
set_option maxRecDepth 20000 in
theorem dX5_readItem_192 : decode cX5_readItem 192 = .ok (.invokevirtual 91, 3) := by decide +kernel
set_option maxRecDepth 20000 in
theorem dX5_readItem_195 : decode cX5_readItem 195 = .ok (.iastore, 1) := by decide +kernel
set_option maxRecDepth 20000 in
theorem dX5_readItem_196 : decode cX5_readItem 196 = .ok (.aload_n 0, 1) := by decide +kernel
set_option maxRecDepth 20000 in
theorem dX5_readItem_197 : decode cX5_readItem 197 = .ok (.iconst 1, 1) := by decide +kernel
set_option maxRecDepth 20000 in
theorem dX5_readItem_198 : decode cX5_readItem 198 = .ok (.putfield 87, 3) := by decide +kernel
set_option maxRecDepth 20000 in
theorem dX5_readItem_201 : decode cX5_readItem 201 = .ok (.aload_n 0, 1) := by decide +kernel
set_option maxRecDepth 20000 in
theorem dX5_readItem_202 : decode cX5_readItem 202 = .ok (.aload_n 0, 1) := by decide +kernel
set_option maxRecDepth 20000 in
theorem dX5_readItem_203 : decode cX5_readItem 203 = .ok (.getfield 71, 3) := by decide +kernel
set_option maxRecDepth 20000 in
theorem dX5_readItem_206 : decode cX5_readItem 206 = .ok (.iconst 5, 1) := by decide +kernel
set_option maxRecDepth 20000 in
theorem dX5_readItem_207 : decode cX5_readItem 207 = .ok (.if_icmp .ne 7, 3) := by decide +kernel
set_option maxRecDepth 20000 in
theorem dX5_readItem_210 : decode cX5_readItem 210 = .ok (.iconst 1, 1) := by decide +kernel
set_option maxRecDepth 20000 in
theorem dX5_readItem_211 : decode cX5_readItem 211 = .ok (.goto 4, 3) := by decide +kernel
set_option maxRecDepth 20000 in
theorem dX5_readItem_214 : decode cX5_readItem 214 = .ok (.iconst 0, 1) := by decide +kernel
set_option maxRecDepth 20000 in
theorem dX5_readItem_215 : decode cX5_readItem 215 = .ok (.invokevirtual 83, 3) := by decide +kernel
set_option maxRecDepth 20000 in
theorem dX5_readItem_218 : decode cX5_readItem 218 = .ok (.pop, 1) := by decide +kernel
set_option maxRecDepth 20000 in
theorem dX5_readItem_219 : decode cX5_readItem 219 = .ok (.return_, 1) := by decide +kernel
set_option maxRecDepth 20000 in
theorem dX5_gate_0 : decode cX5_gate 0 = .ok (.aload_n 0, 1) := by decide +kernel
set_option maxRecDepth 20000 in
theorem dX5_gate_1 : decode cX5_gate 1 = .ok (.iconst 0, 1) := by decide +kernel
set_option maxRecDepth 20000 in
theorem dX5_gate_2 : decode cX5_gate 2 = .ok (.putfield 58, 3) := by decide +kernel
set_option maxRecDepth 20000 in
theorem dX5_gate_5 : decode cX5_gate 5 = .ok (.aload_n 0, 1) := by decide +kernel
set_option maxRecDepth 20000 in
theorem dX5_gate_6 : decode cX5_gate 6 = .ok (.bipush (-9), 2) := by decide +kernel
set_option maxRecDepth 20000 in
theorem dX5_gate_8 : decode cX5_gate 8 = .ok (.putfield 77, 3) := by decide +kernel
set_option maxRecDepth 20000 in
theorem dX5_gate_11 : decode cX5_gate 11 = .ok (.aload_n 0, 1) := by decide +kernel
set_option maxRecDepth 20000 in
theorem dX5_gate_12 : decode cX5_gate 12 = .ok (.iconst 0, 1) := by decide +kernel
set_option maxRecDepth 20000 in
theorem dX5_gate_13 : decode cX5_gate 13 = .ok (.putfield 87, 3) := by decide +kernel
set_option maxRecDepth 20000 in
theorem dX5_gate_16 : decode cX5_gate 16 = .ok (.aload_n 0, 1) := by decide +kernel
set_option maxRecDepth 20000 in
theorem dX5_gate_17 : decode cX5_gate 17 = .ok (.getfield 13, 3) := by decide +kernel
set_option maxRecDepth 20000 in
theorem dX5_gate_20 : decode cX5_gate 20 = .ok (.iconst 1, 1) := by decide +kernel
set_option maxRecDepth 20000 in
theorem dX5_gate_21 : decode cX5_gate 21 = .ok (.iconst 0, 1) := by decide +kernel
set_option maxRecDepth 20000 in
theorem dX5_gate_22 : decode cX5_gate 22 = .ok (.iastore, 1) := by decide +kernel
set_option maxRecDepth 20000 in
theorem dX5_gate_23 : decode cX5_gate 23 = .ok (.aload_n 0, 1) := by decide +kernel
set_option maxRecDepth 20000 in
theorem dX5_gate_24 : decode cX5_gate 24 = .ok (.getfield 20, 3) := by decide +kernel
set_option maxRecDepth 20000 in
theorem dX5_gate_27 : decode cX5_gate 27 = .ok (.iconst 1, 1) := by decide +kernel
set_option maxRecDepth 20000 in
theorem dX5_gate_28 : decode cX5_gate 28 = .ok (.iconst 0, 1) := by decide +kernel
set_option maxRecDepth 20000 in
theorem dX5_gate_29 : decode cX5_gate 29 = .ok (.iastore, 1) := by decide +kernel
set_option maxRecDepth 20000 in
theorem dX5_gate_30 : decode cX5_gate 30 = .ok (.aload_n 0, 1) := by decide +kernel
set_option maxRecDepth 20000 in
theorem dX5_gate_31 : decode cX5_gate 31 = .ok (.getfield 35, 3) := by decide +kernel
set_option maxRecDepth 20000 in
theorem dX5_gate_34 : decode cX5_gate 34 = .ok (.iconst 1, 1) := by decide +kernel
set_option maxRecDepth 20000 in
theorem dX5_gate_35 : decode cX5_gate 35 = .ok (.iconst 0, 1) := by decide +kernel
set_option maxRecDepth 20000 in
theorem dX5_gate_36 : decode cX5_gate 36 = .ok (.iastore, 1) := by decide +kernel
set_option maxRecDepth 20000 in
theorem dX5_gate_37 : decode cX5_gate 37 = .ok (.iconst 0, 1) := by decide +kernel
set_option maxRecDepth 20000 in
theorem dX5_gate_38 : decode cX5_gate 38 = .ok (.istore_n 1, 1) := by decide +kernel
set_option maxRecDepth 20000 in
theorem dX5_gate_39 : decode cX5_gate 39 = .ok (.aload_n 0, 1) := by decide +kernel
set_option maxRecDepth 20000 in
theorem dX5_gate_40 : decode cX5_gate 40 = .ok (.invokevirtual 80, 3) := by decide +kernel
set_option maxRecDepth 20000 in
theorem dX5_gate_43 : decode cX5_gate 43 = .ok (.aload_n 0, 1) := by decide +kernel
set_option maxRecDepth 20000 in
theorem dX5_gate_44 : decode cX5_gate 44 = .ok (.getfield 77, 3) := by decide +kernel
set_option maxRecDepth 20000 in
theorem dX5_gate_47 : decode cX5_gate 47 = .ok (.bipush (-9), 2) := by decide +kernel
set_option maxRecDepth 20000 in
theorem dX5_gate_49 : decode cX5_gate 49 = .ok (.if_icmp .ne 21, 3) := by decide +kernel
set_option maxRecDepth 20000 in
theorem dX5_gate_52 : decode cX5_gate 52 = .ok (.aload_n 0, 1) := by decide +kernel
set_option maxRecDepth 20000 in
theorem dX5_gate_53 : decode cX5_gate 53 = .ok (.getfield 71, 3) := by decide +kernel
set_option maxRecDepth 20000 in
theorem dX5_gate_56 : decode cX5_gate 56 = .ok (.iconst 3, 1) := by decide +kernel
set_option maxRecDepth 20000 in
theorem dX5_gate_57 : decode cX5_gate 57 = .ok (.if_icmp .eq 13, 3) := by decide +kernel
set_option maxRecDepth 20000 in
theorem dX5_gate_60 : decode cX5_gate 60 = .ok (.aload_n 0, 1) := by decide +kernel
set_option maxRecDepth 20000 in
theorem dX5_gate_61 : decode cX5_gate 61 = .ok (.invokevirtual 95, 3) := by decide +kernel
set_option maxRecDepth 20000 in
theorem dX5_gate_64 : decode cX5_gate 64 = .ok (.iinc 1 1, 3) := by decide +kernel
set_option maxRecDepth 20000 in
theorem dX5_gate_67 : decode cX5_gate 67 = .ok (.goto (-24), 3) := by decide +kernel
set_option maxRecDepth 20000 in
theorem dX5_gate_70 : decode cX5_gate 70 = .ok (.aload_n 0, 1) := by decide +kernel
set_option maxRecDepth 20000 in
theorem dX5_gate_71 : decode cX5_gate 71 = .ok (.getfield 77, 3) := by decide +kernel
set_option maxRecDepth 20000 in
theorem dX5_gate_74 : decode cX5_gate 74 = .ok (.bipush (-9), 2) := by decide +kernel
set_option maxRecDepth 20000 in
theorem dX5_gate_76 : decode cX5_gate 76 = .ok (.if_icmp .eq 11, 3) := by decide +kernel
set_option maxRecDepth 20000 in
theorem dX5_gate_79 : decode cX5_gate 79 = .ok (.bipush (-10), 2) := by decide +kernel
set_option maxRecDepth 20000 in
theorem dX5_gate_81 : decode cX5_gate 81 = .ok (.aload_n 0, 1) := by decide +kernel
set_option maxRecDepth 20000 in
theorem dX5_gate_82 : decode cX5_gate 82 = .ok (.getfield 77, 3) := by decide +kernel
set_option maxRecDepth 20000 in
theorem dX5_gate_85 : decode cX5_gate 85 = .ok (.isub, 1) := by decide +kernel
set_option maxRecDepth 20000 in
theorem dX5_gate_86 : decode cX5_gate 86 = .ok (.ireturn, 1) := by decide +kernel
set_option maxRecDepth 20000 in
theorem dX5_gate_87 : decode cX5_gate 87 = .ok (.aload_n 0, 1) := by decide +kernel
set_option maxRecDepth 20000 in
theorem dX5_gate_88 : decode cX5_gate 88 = .ok (.getfield 13, 3) := by decide +kernel
set_option maxRecDepth 20000 in
theorem dX5_gate_91 : decode cX5_gate 91 = .ok (.iconst 0, 1) := by decide +kernel
set_option maxRecDepth 20000 in
theorem dX5_gate_92 : decode cX5_gate 92 = .ok (.aload_n 0, 1) := by decide +kernel
set_option maxRecDepth 20000 in
theorem dX5_gate_93 : decode cX5_gate 93 = .ok (.getfield 13, 3) := by decide +kernel
set_option maxRecDepth 20000 in
theorem dX5_gate_96 : decode cX5_gate 96 = .ok (.iconst 1, 1) := by decide +kernel
set_option maxRecDepth 20000 in
theorem dX5_gate_97 : decode cX5_gate 97 = .ok (.iaload, 1) := by decide +kernel
set_option maxRecDepth 20000 in
theorem dX5_gate_98 : decode cX5_gate 98 = .ok (.iastore, 1) := by decide +kernel
set_option maxRecDepth 20000 in
theorem dX5_gate_99 : decode cX5_gate 99 = .ok (.aload_n 0, 1) := by decide +kernel
set_option maxRecDepth 20000 in
theorem dX5_gate_100 : decode cX5_gate 100 = .ok (.getfield 20, 3) := by decide +kernel
set_option maxRecDepth 20000 in
theorem dX5_gate_103 : decode cX5_gate 103 = .ok (.iconst 0, 1) := by decide +kernel
set_option maxRecDepth 20000 in
theorem dX5_gate_104 : decode cX5_gate 104 = .ok (.aload_n 0, 1) := by decide +kernel
set_option maxRecDepth 20000 in
theorem dX5_gate_105 : decode cX5_gate 105 = .ok (.getfield 20, 3) := by decide +kernel
set_option maxRecDepth 20000 in
theorem dX5_gate_108 : decode cX5_gate 108 = .ok (.iconst 1, 1) := by decide +kernel
set_option maxRecDepth 20000 in
theorem dX5_gate_109 : decode cX5_gate 109 = .ok (.iaload, 1) := by decide +kernel
set_option maxRecDepth 20000 in
theorem dX5_gate_110 : decode cX5_gate 110 = .ok (.iastore, 1) := by decide +kernel
set_option maxRecDepth 20000 in
theorem dX5_gate_111 : decode cX5_gate 111 = .ok (.aload_n 0, 1) := by decide +kernel
set_option maxRecDepth 20000 in
theorem dX5_gate_112 : decode cX5_gate 112 = .ok (.getfield 35, 3) := by decide +kernel
set_option maxRecDepth 20000 in
theorem dX5_gate_115 : decode cX5_gate 115 = .ok (.iconst 0, 1) := by decide +kernel
set_option maxRecDepth 20000 in
theorem dX5_gate_116 : decode cX5_gate 116 = .ok (.aload_n 0, 1) := by decide +kernel
set_option maxRecDepth 20000 in
theorem dX5_gate_117 : decode cX5_gate 117 = .ok (.getfield 35, 3) := by decide +kernel
set_option maxRecDepth 20000 in
theorem dX5_gate_120 : decode cX5_gate 120 = .ok (.iconst 1, 1) := by decide +kernel
set_option maxRecDepth 20000 in
theorem dX5_gate_121 : decode cX5_gate 121 = .ok (.iaload, 1) := by decide +kernel
set_option maxRecDepth 20000 in
theorem dX5_gate_122 : decode cX5_gate 122 = .ok (.iastore, 1) := by decide +kernel
set_option maxRecDepth 20000 in
theorem dX5_gate_123 : decode cX5_gate 123 = .ok (.iconst 0, 1) := by decide +kernel
set_option maxRecDepth 20000 in
theorem dX5_gate_124 : decode cX5_gate 124 = .ok (.istore_n 2, 1) := by decide +kernel
set_option maxRecDepth 20000 in
theorem dX5_gate_125 : decode cX5_gate 125 = .ok (.iload_n 2, 1) := by decide +kernel
set_option maxRecDepth 20000 in
theorem dX5_gate_126 : decode cX5_gate 126 = .ok (.iconst 5, 1) := by decide +kernel
set_option maxRecDepth 20000 in
theorem dX5_gate_127 : decode cX5_gate 127 = .ok (.if_icmp .ge 23, 3) := by decide +kernel
set_option maxRecDepth 20000 in
theorem dX5_gate_130 : decode cX5_gate 130 = .ok (.aload_n 0, 1) := by decide +kernel
set_option maxRecDepth 20000 in
theorem dX5_gate_131 : decode cX5_gate 131 = .ok (.getfield 17, 3) := by decide +kernel
set_option maxRecDepth 20000 in
theorem dX5_gate_134 : decode cX5_gate 134 = .ok (.iload_n 2, 1) := by decide +kernel
set_option maxRecDepth 20000 in
theorem dX5_gate_135 : decode cX5_gate 135 = .ok (.aload_n 0, 1) := by decide +kernel
set_option maxRecDepth 20000 in
theorem dX5_gate_136 : decode cX5_gate 136 = .ok (.getfield 17, 3) := by decide +kernel
set_option maxRecDepth 20000 in
theorem dX5_gate_139 : decode cX5_gate 139 = .ok (.iconst 5, 1) := by decide +kernel
set_option maxRecDepth 20000 in
theorem dX5_gate_140 : decode cX5_gate 140 = .ok (.iload_n 2, 1) := by decide +kernel
set_option maxRecDepth 20000 in
theorem dX5_gate_141 : decode cX5_gate 141 = .ok (.iadd, 1) := by decide +kernel
set_option maxRecDepth 20000 in
theorem dX5_gate_142 : decode cX5_gate 142 = .ok (.iaload, 1) := by decide +kernel
set_option maxRecDepth 20000 in
theorem dX5_gate_143 : decode cX5_gate 143 = .ok (.iastore, 1) := by decide +kernel
set_option maxRecDepth 20000 in
theorem dX5_gate_144 : decode cX5_gate 144 = .ok (.iinc 2 1, 3) := by decide +kernel
set_option maxRecDepth 20000 in
theorem dX5_gate_147 : decode cX5_gate 147 = .ok (.goto (-22), 3) := by decide +kernel
set_option maxRecDepth 20000 in
theorem dX5_gate_150 : decode cX5_gate 150 = .ok (.iconst 0, 1) := by decide +kernel
set_option maxRecDepth 20000 in
theorem dX5_gate_151 : decode cX5_gate 151 = .ok (.istore_n 2, 1) := by decide +kernel
set_option maxRecDepth 20000 in
theorem dX5_gate_152 : decode cX5_gate 152 = .ok (.iload_n 2, 1) := by decide +kernel
set_option maxRecDepth 20000 in
theorem dX5_gate_153 : decode cX5_gate 153 = .ok (.bipush 6, 2) := by decide +kernel
set_option maxRecDepth 20000 in
theorem dX5_gate_155 : decode cX5_gate 155 = .ok (.if_icmp .ge 69, 3) := by decide +kernel
set_option maxRecDepth 20000 in
theorem dX5_gate_158 : decode cX5_gate 158 = .ok (.aload_n 0, 1) := by decide +kernel
set_option maxRecDepth 20000 in
theorem dX5_gate_159 : decode cX5_gate 159 = .ok (.getfield 23, 3) := by decide +kernel
set_option maxRecDepth 20000 in
theorem dX5_gate_162 : decode cX5_gate 162 = .ok (.iload_n 2, 1) := by decide +kernel
set_option maxRecDepth 20000 in
theorem dX5_gate_163 : decode cX5_gate 163 = .ok (.aload_n 0, 1) := by decide +kernel
set_option maxRecDepth 20000 in
theorem dX5_gate_164 : decode cX5_gate 164 = .ok (.getfield 23, 3) := by decide +kernel
set_option maxRecDepth 20000 in
theorem dX5_gate_167 : decode cX5_gate 167 = .ok (.bipush 6, 2) := by decide +kernel
set_option maxRecDepth 20000 in
theorem dX5_gate_169 : decode cX5_gate 169 = .ok (.iload_n 2, 1) := by decide +kernel
set_option maxRecDepth 20000 in
theorem dX5_gate_170 : decode cX5_gate 170 = .ok (.iadd, 1) := by decide +kernel
set_option maxRecDepth 20000 in
theorem dX5_gate_171 : decode cX5_gate 171 = .ok (.iaload, 1) := by decide +kernel
set_option maxRecDepth 20000 in
theorem dX5_gate_172 : decode cX5_gate 172 = .ok (.iastore, 1) := by decide +kernel
set_option maxRecDepth 20000 in
theorem dX5_gate_173 : decode cX5_gate 173 = .ok (.aload_n 0, 1) := by decide +kernel
set_option maxRecDepth 20000 in
theorem dX5_gate_174 : decode cX5_gate 174 = .ok (.getfield 26, 3) := by decide +kernel
set_option maxRecDepth 20000 in
theorem dX5_gate_177 : decode cX5_gate 177 = .ok (.iload_n 2, 1) := by decide +kernel
set_option maxRecDepth 20000 in
theorem dX5_gate_178 : decode cX5_gate 178 = .ok (.aload_n 0, 1) := by decide +kernel
set_option maxRecDepth 20000 in
theorem dX5_gate_179 : decode cX5_gate 179 = .ok (.getfield 26, 3) := by decide +kernel
set_option maxRecDepth 20000 in
theorem dX5_gate_182 : decode cX5_gate 182 = .ok (.bipush 6, 2) := by decide +kernel
set_option maxRecDepth 20000 in
theorem dX5_gate_184 : decode cX5_gate 184 = .ok (.iload_n 2, 1) := by decide +kernel
set_option maxRecDepth 20000 in
theorem dX5_gate_185 : decode cX5_gate 185 = .ok (.iadd, 1) := by decide +kernel
set_option maxRecDepth 20000 in
theorem dX5_gate_186 : decode cX5_gate 186 = .ok (.iaload, 1) := by decide +kernel
set_option maxRecDepth 20000 in
theorem dX5_gate_187 : decode cX5_gate 187 = .ok (.iastore, 1) := by decide +kernel
set_option maxRecDepth 20000 in
theorem dX5_gate_188 : decode cX5_gate 188 = .ok (.aload_n 0, 1) := by decide +kernel
set_option maxRecDepth 20000 in
theorem dX5_gate_189 : decode cX5_gate 189 = .ok (.getfield 29, 3) := by decide +kernel
set_option maxRecDepth 20000 in
theorem dX5_gate_192 : decode cX5_gate 192 = .ok (.iload_n 2, 1) := by decide +kernel
set_option maxRecDepth 20000 in
theorem dX5_gate_193 : decode cX5_gate 193 = .ok (.aload_n 0, 1) := by decide +kernel
set_option maxRecDepth 20000 in
theorem dX5_gate_194 : decode cX5_gate 194 = .ok (.getfield 29, 3) := by decide +kernel
set_option maxRecDepth 20000 in
theorem dX5_gate_197 : decode cX5_gate 197 = .ok (.bipush 6, 2) := by decide +kernel
set_option maxRecDepth 20000 in
theorem dX5_gate_199 : decode cX5_gate 199 = .ok (.iload_n 2, 1) := by decide +kernel
set_option maxRecDepth 20000 in
theorem dX5_gate_200 : decode cX5_gate 200 = .ok (.iadd, 1) := by decide +kernel
set_option maxRecDepth 20000 in
theorem dX5_gate_201 : decode cX5_gate 201 = .ok (.iaload, 1) := by decide +kernel
set_option maxRecDepth 20000 in
theorem dX5_gate_202 : decode cX5_gate 202 = .ok (.iastore, 1) := by decide +kernel
set_option maxRecDepth 20000 in
theorem dX5_gate_203 : decode cX5_gate 203 = .ok (.aload_n 0, 1) := by decide +kernel
set_option maxRecDepth 20000 in
theorem dX5_gate_204 : decode cX5_gate 204 = .ok (.getfield 32, 3) := by decide +kernel
set_option maxRecDepth 20000 in
theorem dX5_gate_207 : decode cX5_gate 207 = .ok (.iload_n 2, 1) := by decide +kernel
set_option maxRecDepth 20000 in
theorem dX5_gate_208 : decode cX5_gate 208 = .ok (.aload_n 0, 1) := by decide +kernel
set_option maxRecDepth 20000 in
theorem dX5_gate_209 : decode cX5_gate 209 = .ok (.getfield 32, 3) := by decide +kernel
set_option maxRecDepth 20000 in
theorem dX5_gate_212 : decode cX5_gate 212 = .ok (.bipush 6, 2) := by decide +kernel
set_option maxRecDepth 20000 in
theorem dX5_gate_214 : decode cX5_gate 214 = .ok (.iload_n 2, 1) := by decide +kernel
set_option maxRecDepth 20000 in
theorem dX5_gate_215 : decode cX5_gate 215 = .ok (.iadd, 1) := by decide +kernel
set_option maxRecDepth 20000 in
theorem dX5_gate_216 : decode cX5_gate 216 = .ok (.iaload, 1) := by decide +kernel
set_option maxRecDepth 20000 in
theorem dX5_gate_217 : decode cX5_gate 217 = .ok (.iastore, 1) := by decide +kernel
set_option maxRecDepth 20000 in
theorem dX5_gate_218 : decode cX5_gate 218 = .ok (.iinc 2 1, 3) := by decide +kernel
set_option maxRecDepth 20000 in
theorem dX5_gate_221 : decode cX5_gate 221 = .ok (.goto (-69), 3) := by decide +kernel
set_option maxRecDepth 20000 in
theorem dX5_gate_224 : decode cX5_gate 224 = .ok (.iconst 0, 1) := by decide +kernel
set_option maxRecDepth 20000 in
theorem dX5_gate_225 : decode cX5_gate 225 = .ok (.istore_n 2, 1) := by decide +kernel
set_option maxRecDepth 20000 in
theorem dX5_gate_226 : decode cX5_gate 226 = .ok (.iload_n 2, 1) := by decide +kernel
set_option maxRecDepth 20000 in
theorem dX5_gate_227 : decode cX5_gate 227 = .ok (.bipush 80, 2) := by decide +kernel
set_option maxRecDepth 20000 in
theorem dX5_gate_229 : decode cX5_gate 229 = .ok (.if_icmp .ge 16, 3) := by decide +kernel
set_option maxRecDepth 20000 in
theorem dX5_gate_232 : decode cX5_gate 232 = .ok (.aload_n 0, 1) := by decide +kernel
set_option maxRecDepth 20000 in
theorem dX5_gate_233 : decode cX5_gate 233 = .ok (.getfield 38, 3) := by decide +kernel
set_option maxRecDepth 20000 in
theorem dX5_gate_236 : decode cX5_gate 236 = .ok (.iload_n 2, 1) := by decide +kernel
set_option maxRecDepth 20000 in
theorem dX5_gate_237 : decode cX5_gate 237 = .ok (.iconst 0, 1) := by decide +kernel
set_option maxRecDepth 20000 in
theorem dX5_gate_238 : decode cX5_gate 238 = .ok (.iastore, 1) := by decide +kernel
set_option maxRecDepth 20000 in
theorem dX5_gate_239 : decode cX5_gate 239 = .ok (.iinc 2 1, 3) := by decide +kernel
set_option maxRecDepth 20000 in
theorem dX5_gate_242 : decode cX5_gate 242 = .ok (.goto (-16), 3) := by decide +kernel
set_option maxRecDepth 20000 in
theorem dX5_gate_245 : decode cX5_gate 245 = .ok (.aload_n 0, 1) := by decide +kernel
set_option maxRecDepth 20000 in
theorem dX5_gate_246 : decode cX5_gate 246 = .ok (.getfield 38, 3) := by decide +kernel
set_option maxRecDepth 20000 in
theorem dX5_gate_249 : decode cX5_gate 249 = .ok (.bipush 6, 2) := by decide +kernel
set_option maxRecDepth 20000 in
theorem dX5_gate_251 : decode cX5_gate 251 = .ok (.aload_n 0, 1) := by decide +kernel
set_option maxRecDepth 20000 in
theorem dX5_gate_252 : decode cX5_gate 252 = .ok (.getfield 35, 3) := by decide +kernel
set_option maxRecDepth 20000 in
theorem dX5_gate_255 : decode cX5_gate 255 = .ok (.iconst 0, 1) := by decide +kernel
set_option maxRecDepth 20000 in
theorem dX5_gate_256 : decode cX5_gate 256 = .ok (.iaload, 1) := by decide +kernel
set_option maxRecDepth 20000 in
theorem dX5_gate_257 : decode cX5_gate 257 = .ok (.iastore, 1) := by decide +kernel
set_option maxRecDepth 20000 in
theorem dX5_gate_258 : decode cX5_gate 258 = .ok (.aload_n 0, 1) := by decide +kernel
set_option maxRecDepth 20000 in
theorem dX5_gate_259 : decode cX5_gate 259 = .ok (.iconst 0, 1) := by decide +kernel
set_option maxRecDepth 20000 in
theorem dX5_gate_260 : decode cX5_gate 260 = .ok (.putfield 98, 3) := by decide +kernel
set_option maxRecDepth 20000 in
theorem dX5_gate_263 : decode cX5_gate 263 = .ok (.aload_n 0, 1) := by decide +kernel
set_option maxRecDepth 20000 in
theorem dX5_gate_264 : decode cX5_gate 264 = .ok (.getfield 41, 3) := by decide +kernel
set_option maxRecDepth 20000 in
theorem dX5_gate_267 : decode cX5_gate 267 = .ok (.iconst 0, 1) := by decide +kernel
set_option maxRecDepth 20000 in
theorem dX5_gate_268 : decode cX5_gate 268 = .ok (.iconst 0, 1) := by decide +kernel
set_option maxRecDepth 20000 in
theorem dX5_gate_269 : decode cX5_gate 269 = .ok (.bastore, 1) := by decide +kernel
set_option maxRecDepth 20000 in
theorem dX5_gate_270 : decode cX5_gate 270 = .ok (.aload_n 0, 1) := by decide +kernel
set_option maxRecDepth 20000 in
theorem dX5_gate_271 : decode cX5_gate 271 = .ok (.getfield 41, 3) := by decide +kernel
set_option maxRecDepth 20000 in
theorem dX5_gate_274 : decode cX5_gate 274 = .ok (.iconst 1, 1) := by decide +kernel
set_option maxRecDepth 20000 in
theorem dX5_gate_275 : decode cX5_gate 275 = .ok (.iconst 0, 1) := by decide +kernel
set_option maxRecDepth 20000 in
theorem dX5_gate_276 : decode cX5_gate 276 = .ok (.bastore, 1) := by decide +kernel
set_option maxRecDepth 20000 in
theorem dX5_gate_277 : decode cX5_gate 277 = .ok (.aload_n 0, 1) := by decide +kernel
set_option maxRecDepth 20000 in
theorem dX5_gate_278 : decode cX5_gate 278 = .ok (.iconst 0, 1) := by decide +kernel
set_option maxRecDepth 20000 in
theorem dX5_gate_279 : decode cX5_gate 279 = .ok (.putfield 48, 3) := by decide +kernel
set_option maxRecDepth 20000 in
theorem dX5_gate_282 : decode cX5_gate 282 = .ok (.iload_n 1, 1) := by decide +kernel
set_option maxRecDepth 20000 in
theorem dX5_gate_283 : decode cX5_gate 283 = .ok (.ireturn, 1) := by decide +kernel
set_option maxRecDepth 20000 in
theorem dX5_isLoad_0 : decode cX5_isLoad 0 = .ok (.iload_n 1, 1) := by decide +kernel
set_option maxRecDepth 20000 in
theorem dX5_isLoad_1 : decode cX5_isLoad 1 = .ok (.iconst 0, 1) := by decide +kernel
set_option maxRecDepth 20000 in
theorem dX5_isLoad_2 : decode cX5_isLoad 2 = .ok (.aload_n 0, 1) := by decide +kernel
set_option maxRecDepth 20000 in
theorem dX5_isLoad_3 : decode cX5_isLoad 3 = .ok (.getfield 13, 3) := by decide +kernel
set_option maxRecDepth 20000 in
theorem dX5_isLoad_6 : decode cX5_isLoad 6 = .ok (.iconst 0, 1) := by decide +kernel
set_option maxRecDepth 20000 in
theorem dX5_isLoad_7 : decode cX5_isLoad 7 = .ok (.iaload, 1) := by decide +kernel
set_option maxRecDepth 20000 in
theorem dX5_isLoad_8 : decode cX5_isLoad 8 = .ok (.iconst 1, 1) := by decide +kernel
set_option maxRecDepth 20000 in
theorem dX5_isLoad_9 : decode cX5_isLoad 9 = .ok (.isub, 1) := by decide +kernel
set_option maxRecDepth 20000 in
theorem dX5_isLoad_10 : decode cX5_isLoad 10 = .ok (.invokestatic 52, 3) := by decide +kernel
set_option maxRecDepth 20000 in
theorem dX5_isLoad_13 : decode cX5_isLoad 13 = .ok (.ireturn, 1) := by decide +kernel
set_option maxRecDepth 20000 in
theorem dX5_isTaster_0 : decode cX5_isTaster 0 = .ok (.iload_n 1, 1) := by decide +kernel
set_option maxRecDepth 20000 in
theorem dX5_isTaster_1 : decode cX5_isTaster 1 = .ok (.iconst 0, 1) := by decide +kernel
set_option maxRecDepth 20000 in
theorem dX5_isTaster_2 : decode cX5_isTaster 2 = .ok (.aload_n 0, 1) := by decide +kernel
set_option maxRecDepth 20000 in
theorem dX5_isTaster_3 : decode cX5_isTaster 3 = .ok (.getfield 20, 3) := by decide +kernel
set_option maxRecDepth 20000 in
theorem dX5_isTaster_6 : decode cX5_isTaster 6 = .ok (.iconst 0, 1) := by decide +kernel
set_option maxRecDepth 20000 in
theorem dX5_isTaster_7 : decode cX5_isTaster 7 = .ok (.iaload, 1) := by decide +kernel
set_option maxRecDepth 20000 in
theorem dX5_isTaster_8 : decode cX5_isTaster 8 = .ok (.iconst 1, 1) := by decide +kernel
set_option maxRecDepth 20000 in
theorem dX5_isTaster_9 : decode cX5_isTaster 9 = .ok (.isub, 1) := by decide +kernel
set_option maxRecDepth 20000 in
theorem dX5_isTaster_10 : decode cX5_isTaster 10 = .ok (.invokestatic 52, 3) := by decide +kernel
set_option maxRecDepth 20000 in
theorem dX5_isTaster_13 : decode cX5_isTaster 13 = .ok (.ireturn, 1) := by decide +kernel
set_option maxRecDepth 20000 in
theorem dX5_byLaw_0 : decode cX5_byLaw 0 = .ok (.iload_n 0, 1) := by decide +kernel
set_option maxRecDepth 20000 in
theorem dX5_byLaw_1 : decode cX5_byLaw 1 = .ok (.iload 4, 2) := by decide +kernel
set_option maxRecDepth 20000 in
theorem dX5_byLaw_3 : decode cX5_byLaw 3 = .ok (.imul, 1) := by decide +kernel
set_option maxRecDepth 20000 in
theorem dX5_byLaw_4 : decode cX5_byLaw 4 = .ok (.iload_n 3, 1) := by decide +kernel
set_option maxRecDepth 20000 in
theorem dX5_byLaw_5 : decode cX5_byLaw 5 = .ok (.iload 5, 2) := by decide +kernel
set_option maxRecDepth 20000 in
theorem dX5_byLaw_7 : decode cX5_byLaw 7 = .ok (.imul, 1) := by decide +kernel
set_option maxRecDepth 20000 in
theorem dX5_byLaw_8 : decode cX5_byLaw 8 = .ok (.isub, 1) := by decide +kernel
set_option maxRecDepth 20000 in
theorem dX5_byLaw_9 : decode cX5_byLaw 9 = .ok (.istore 7, 2) := by decide +kernel
set_option maxRecDepth 20000 in
theorem dX5_byLaw_11 : decode cX5_byLaw 11 = .ok (.iload 7, 2) := by decide +kernel
set_option maxRecDepth 20000 in
theorem dX5_byLaw_13 : decode cX5_byLaw 13 = .ok (.ifCond .ge 7, 3) := by decide +kernel
set_option maxRecDepth 20000 in
theorem dX5_byLaw_16 : decode cX5_byLaw 16 = .ok (.iconst 0, 1) := by decide +kernel
set_option maxRecDepth 20000 in
theorem dX5_byLaw_17 : decode cX5_byLaw 17 = .ok (.goto 5, 3) := by decide +kernel
set_option maxRecDepth 20000 in
theorem dX5_byLaw_20 : decode cX5_byLaw 20 = .ok (.iload 7, 2) := by decide +kernel
set_option maxRecDepth 20000 in
theorem dX5_byLaw_22 : decode cX5_byLaw 22 = .ok (.iload_n 1, 1) := by decide +kernel
set_option maxRecDepth 20000 in
theorem dX5_byLaw_23 : decode cX5_byLaw 23 = .ok (.iadd, 1) := by decide +kernel
set_option maxRecDepth 20000 in
theorem dX5_byLaw_24 : decode cX5_byLaw 24 = .ok (.iload 6, 2) := by decide +kernel
set_option maxRecDepth 20000 in
theorem dX5_byLaw_26 : decode cX5_byLaw 26 = .ok (.iadd, 1) := by decide +kernel
set_option maxRecDepth 20000 in
theorem dX5_byLaw_27 : decode cX5_byLaw 27 = .ok (.iload_n 2, 1) := by decide +kernel
set_option maxRecDepth 20000 in
theorem dX5_byLaw_28 : decode cX5_byLaw 28 = .ok (.idiv, 1) := by decide +kernel
set_option maxRecDepth 20000 in
theorem dX5_byLaw_29 : decode cX5_byLaw 29 = .ok (.ireturn, 1) := by decide +kernel
set_option maxRecDepth 20000 in
theorem dX5_cupsOf_0 : decode cX5_cupsOf 0 = .ok (.aload_n 0, 1) := by decide +kernel
set_option maxRecDepth 20000 in
theorem dX5_cupsOf_1 : decode cX5_cupsOf 1 = .ok (.getfield 23, 3) := by decide +kernel
set_option maxRecDepth 20000 in
theorem dX5_cupsOf_4 : decode cX5_cupsOf 4 = .ok (.iload_n 1, 1) := by decide +kernel
set_option maxRecDepth 20000 in
theorem dX5_cupsOf_5 : decode cX5_cupsOf 5 = .ok (.iaload, 1) := by decide +kernel
set_option maxRecDepth 20000 in
theorem dX5_cupsOf_6 : decode cX5_cupsOf 6 = .ok (.aload_n 0, 1) := by decide +kernel
set_option maxRecDepth 20000 in
theorem dX5_cupsOf_7 : decode cX5_cupsOf 7 = .ok (.getfield 26, 3) := by decide +kernel
set_option maxRecDepth 20000 in
theorem dX5_cupsOf_10 : decode cX5_cupsOf 10 = .ok (.iload_n 1, 1) := by decide +kernel
set_option maxRecDepth 20000 in
theorem dX5_cupsOf_11 : decode cX5_cupsOf 11 = .ok (.iaload, 1) := by decide +kernel
set_option maxRecDepth 20000 in
theorem dX5_cupsOf_12 : decode cX5_cupsOf 12 = .ok (.aload_n 0, 1) := by decide +kernel
set_option maxRecDepth 20000 in
theorem dX5_cupsOf_13 : decode cX5_cupsOf 13 = .ok (.getfield 29, 3) := by decide +kernel
set_option maxRecDepth 20000 in
theorem dX5_cupsOf_16 : decode cX5_cupsOf 16 = .ok (.iload_n 1, 1) := by decide +kernel
set_option maxRecDepth 20000 in
theorem dX5_cupsOf_17 : decode cX5_cupsOf 17 = .ok (.iaload, 1) := by decide +kernel
set_option maxRecDepth 20000 in
theorem dX5_cupsOf_18 : decode cX5_cupsOf 18 = .ok (.aload_n 0, 1) := by decide +kernel
set_option maxRecDepth 20000 in
theorem dX5_cupsOf_19 : decode cX5_cupsOf 19 = .ok (.getfield 32, 3) := by decide +kernel
set_option maxRecDepth 20000 in
theorem dX5_cupsOf_22 : decode cX5_cupsOf 22 = .ok (.iload_n 1, 1) := by decide +kernel
set_option maxRecDepth 20000 in
theorem dX5_cupsOf_23 : decode cX5_cupsOf 23 = .ok (.iaload, 1) := by decide +kernel
set_option maxRecDepth 20000 in
theorem dX5_cupsOf_24 : decode cX5_cupsOf 24 = .ok (.iload_n 2, 1) := by decide +kernel
set_option maxRecDepth 20000 in
theorem dX5_cupsOf_25 : decode cX5_cupsOf 25 = .ok (.iload_n 3, 1) := by decide +kernel
set_option maxRecDepth 20000 in
theorem dX5_cupsOf_26 : decode cX5_cupsOf 26 = .ok (.iload 4, 2) := by decide +kernel
set_option maxRecDepth 20000 in
theorem dX5_cupsOf_28 : decode cX5_cupsOf 28 = .ok (.invokestatic 101, 3) := by decide +kernel
set_option maxRecDepth 20000 in
theorem dX5_cupsOf_31 : decode cX5_cupsOf 31 = .ok (.ireturn, 1) := by decide +kernel
set_option maxRecDepth 20000 in
theorem dX5_load_0 : decode cX5_load 0 = .ok (.aload_n 0, 1) := by decide +kernel
set_option maxRecDepth 20000 in
theorem dX5_load_1 : decode cX5_load 1 = .ok (.iload_n 1, 1) := by decide +kernel
set_option maxRecDepth 20000 in
theorem dX5_load_2 : decode cX5_load 2 = .ok (.invokevirtual 105, 3) := by decide +kernel
set_option maxRecDepth 20000 in
theorem dX5_load_5 : decode cX5_load 5 = .ok (.ifCond .eq 12, 3) := by decide +kernel
set_option maxRecDepth 20000 in
theorem dX5_load_8 : decode cX5_load 8 = .ok (.aload_n 0, 1) := by decide +kernel
set_option maxRecDepth 20000 in
theorem dX5_load_9 : decode cX5_load 9 = .ok (.getfield 17, 3) := by decide +kernel
set_option maxRecDepth 20000 in
theorem dX5_load_12 : decode cX5_load 12 = .ok (.iload_n 1, 1) := by decide +kernel
set_option maxRecDepth 20000 in
theorem dX5_load_13 : decode cX5_load 13 = .ok (.iaload, 1) := by decide +kernel
set_option maxRecDepth 20000 in
theorem dX5_load_14 : decode cX5_load 14 = .ok (.goto 4, 3) := by decide +kernel
set_option maxRecDepth 20000 in
theorem dX5_load_17 : decode cX5_load 17 = .ok (.iconst (-1), 1) := by decide +kernel
set_option maxRecDepth 20000 in
theorem dX5_load_18 : decode cX5_load 18 = .ok (.ireturn, 1) := by decide +kernel
set_option maxRecDepth 20000 in
theorem dX5_taster_0 : decode cX5_taster 0 = .ok (.aload_n 0, 1) := by decide +kernel
set_option maxRecDepth 20000 in
theorem dX5_taster_1 : decode cX5_taster 1 = .ok (.iload_n 1, 1) := by decide +kernel
set_option maxRecDepth 20000 in
theorem dX5_taster_2 : decode cX5_taster 2 = .ok (.invokevirtual 109, 3) := by decide +kernel
set_option maxRecDepth 20000 in
theorem dX5_taster_5 : decode cX5_taster 5 = .ok (.ifCond .ne 5, 3) := by decide +kernel
set_option maxRecDepth 20000 in
theorem dX5_taster_8 : decode cX5_taster 8 = .ok (.iconst (-1), 1) := by decide +kernel
set_option maxRecDepth 20000 in
theorem dX5_taster_9 : decode cX5_taster 9 = .ok (.ireturn, 1) := by decide +kernel
set_option maxRecDepth 20000 in
theorem dX5_taster_10 : decode cX5_taster 10 = .ok (.iload_n 2, 1) := by decide +kernel
set_option maxRecDepth 20000 in
theorem dX5_taster_11 : decode cX5_taster 11 = .ok (.tableswitch 68 0 4 #[33, 40, 47, 54, 61], 33) := by decide +kernel
set_option maxRecDepth 20000 in
theorem dX5_taster_44 : decode cX5_taster 44 = .ok (.aload_n 0, 1) := by decide +kernel
set_option maxRecDepth 20000 in
theorem dX5_taster_45 : decode cX5_taster 45 = .ok (.getfield 23, 3) := by decide +kernel
set_option maxRecDepth 20000 in
theorem dX5_taster_48 : decode cX5_taster 48 = .ok (.iload_n 1, 1) := by decide +kernel
set_option maxRecDepth 20000 in
theorem dX5_taster_49 : decode cX5_taster 49 = .ok (.iaload, 1) := by decide +kernel
set_option maxRecDepth 20000 in
theorem dX5_taster_50 : decode cX5_taster 50 = .ok (.ireturn, 1) := by decide +kernel
set_option maxRecDepth 20000 in
theorem dX5_taster_51 : decode cX5_taster 51 = .ok (.aload_n 0, 1) := by decide +kernel
set_option maxRecDepth 20000 in
theorem dX5_taster_52 : decode cX5_taster 52 = .ok (.getfield 26, 3) := by decide +kernel
set_option maxRecDepth 20000 in
theorem dX5_taster_55 : decode cX5_taster 55 = .ok (.iload_n 1, 1) := by decide +kernel
set_option maxRecDepth 20000 in
theorem dX5_taster_56 : decode cX5_taster 56 = .ok (.iaload, 1) := by decide +kernel
set_option maxRecDepth 20000 in
theorem dX5_taster_57 : decode cX5_taster 57 = .ok (.ireturn, 1) := by decide +kernel
set_option maxRecDepth 20000 in
theorem dX5_taster_58 : decode cX5_taster 58 = .ok (.aload_n 0, 1) := by decide +kernel
set_option maxRecDepth 20000 in
theorem dX5_taster_59 : decode cX5_taster 59 = .ok (.getfield 29, 3) := by decide +kernel
set_option maxRecDepth 20000 in
theorem dX5_taster_62 : decode cX5_taster 62 = .ok (.iload_n 1, 1) := by decide +kernel
set_option maxRecDepth 20000 in
theorem dX5_taster_63 : decode cX5_taster 63 = .ok (.iaload, 1) := by decide +kernel
set_option maxRecDepth 20000 in
theorem dX5_taster_64 : decode cX5_taster 64 = .ok (.ireturn, 1) := by decide +kernel
set_option maxRecDepth 20000 in
theorem dX5_taster_65 : decode cX5_taster 65 = .ok (.aload_n 0, 1) := by decide +kernel
set_option maxRecDepth 20000 in
theorem dX5_taster_66 : decode cX5_taster 66 = .ok (.getfield 32, 3) := by decide +kernel
set_option maxRecDepth 20000 in
theorem dX5_taster_69 : decode cX5_taster 69 = .ok (.iload_n 1, 1) := by decide +kernel
set_option maxRecDepth 20000 in
theorem dX5_taster_70 : decode cX5_taster 70 = .ok (.iaload, 1) := by decide +kernel
set_option maxRecDepth 20000 in
theorem dX5_taster_71 : decode cX5_taster 71 = .ok (.ireturn, 1) := by decide +kernel
set_option maxRecDepth 20000 in
theorem dX5_taster_72 : decode cX5_taster 72 = .ok (.aload_n 0, 1) := by decide +kernel
set_option maxRecDepth 20000 in
theorem dX5_taster_73 : decode cX5_taster 73 = .ok (.getfield 38, 3) := by decide +kernel
set_option maxRecDepth 20000 in
theorem dX5_taster_76 : decode cX5_taster 76 = .ok (.iload_n 1, 1) := by decide +kernel
set_option maxRecDepth 20000 in
theorem dX5_taster_77 : decode cX5_taster 77 = .ok (.iaload, 1) := by decide +kernel
set_option maxRecDepth 20000 in
theorem dX5_taster_78 : decode cX5_taster 78 = .ok (.ireturn, 1) := by decide +kernel
set_option maxRecDepth 20000 in
theorem dX5_taster_79 : decode cX5_taster 79 = .ok (.iconst (-1), 1) := by decide +kernel
set_option maxRecDepth 20000 in
theorem dX5_taster_80 : decode cX5_taster 80 = .ok (.ireturn, 1) := by decide +kernel
set_option maxRecDepth 20000 in
theorem dX5_cups_0 : decode cX5_cups 0 = .ok (.aload_n 0, 1) := by decide +kernel
set_option maxRecDepth 20000 in
theorem dX5_cups_1 : decode cX5_cups 1 = .ok (.iload_n 1, 1) := by decide +kernel
set_option maxRecDepth 20000 in
theorem dX5_cups_2 : decode cX5_cups 2 = .ok (.invokevirtual 109, 3) := by decide +kernel
set_option maxRecDepth 20000 in
theorem dX5_cups_5 : decode cX5_cups 5 = .ok (.ifCond .eq 40, 3) := by decide +kernel
set_option maxRecDepth 20000 in
theorem dX5_cups_8 : decode cX5_cups 8 = .ok (.iload_n 2, 1) := by decide +kernel
set_option maxRecDepth 20000 in
theorem dX5_cups_9 : decode cX5_cups 9 = .ok (.iconst 0, 1) := by decide +kernel
set_option maxRecDepth 20000 in
theorem dX5_cups_10 : decode cX5_cups 10 = .ok (.bipush 60, 2) := by decide +kernel
set_option maxRecDepth 20000 in
theorem dX5_cups_12 : decode cX5_cups 12 = .ok (.invokestatic 52, 3) := by decide +kernel
set_option maxRecDepth 20000 in
theorem dX5_cups_15 : decode cX5_cups 15 = .ok (.ifCond .eq 30, 3) := by decide +kernel
set_option maxRecDepth 20000 in
theorem dX5_cups_18 : decode cX5_cups 18 = .ok (.iload_n 3, 1) := by decide +kernel
set_option maxRecDepth 20000 in
theorem dX5_cups_19 : decode cX5_cups 19 = .ok (.iconst 0, 1) := by decide +kernel
set_option maxRecDepth 20000 in
theorem dX5_cups_20 : decode cX5_cups 20 = .ok (.bipush 99, 2) := by decide +kernel
set_option maxRecDepth 20000 in
theorem dX5_cups_22 : decode cX5_cups 22 = .ok (.invokestatic 52, 3) := by decide +kernel
set_option maxRecDepth 20000 in
theorem dX5_cups_25 : decode cX5_cups 25 = .ok (.ifCond .eq 20, 3) := by decide +kernel
set_option maxRecDepth 20000 in
theorem dX5_cups_28 : decode cX5_cups 28 = .ok (.aload_n 0, 1) := by decide +kernel
set_option maxRecDepth 20000 in
theorem dX5_cups_29 : decode cX5_cups 29 = .ok (.iload_n 1, 1) := by decide +kernel
set_option maxRecDepth 20000 in
theorem dX5_cups_30 : decode cX5_cups 30 = .ok (.iload_n 2, 1) := by decide +kernel
set_option maxRecDepth 20000 in
theorem dX5_cups_31 : decode cX5_cups 31 = .ok (.iload_n 3, 1) := by decide +kernel
set_option maxRecDepth 20000 in
theorem dX5_cups_32 : decode cX5_cups 32 = .ok (.aload_n 0, 1) := by decide +kernel
set_option maxRecDepth 20000 in
theorem dX5_cups_33 : decode cX5_cups 33 = .ok (.getfield 38, 3) := by decide +kernel
set_option maxRecDepth 20000 in
theorem dX5_cups_36 : decode cX5_cups 36 = .ok (.bipush 6, 2) := by decide +kernel
set_option maxRecDepth 20000 in
theorem dX5_cups_38 : decode cX5_cups 38 = .ok (.iaload, 1) := by decide +kernel
set_option maxRecDepth 20000 in
theorem dX5_cups_39 : decode cX5_cups 39 = .ok (.invokevirtual 112, 3) := by decide +kernel
set_option maxRecDepth 20000 in
theorem dX5_cups_42 : decode cX5_cups 42 = .ok (.goto 4, 3) := by decide +kernel
set_option maxRecDepth 20000 in
theorem dX5_cups_45 : decode cX5_cups 45 = .ok (.iconst (-1), 1) := by decide +kernel
set_option maxRecDepth 20000 in
theorem dX5_cups_46 : decode cX5_cups 46 = .ok (.ireturn, 1) := by decide +kernel
set_option maxRecDepth 20000 in
theorem dX5_know_0 : decode cX5_know 0 = .ok (.bipush 8, 2) := by decide +kernel
set_option maxRecDepth 20000 in
theorem dX5_know_2 : decode cX5_know 2 = .ok (.bipush 6, 2) := by decide +kernel
set_option maxRecDepth 20000 in
theorem dX5_know_4 : decode cX5_know 4 = .ok (.aload_n 0, 1) := by decide +kernel
set_option maxRecDepth 20000 in
theorem dX5_know_5 : decode cX5_know 5 = .ok (.getfield 38, 3) := by decide +kernel
set_option maxRecDepth 20000 in
theorem dX5_know_8 : decode cX5_know 8 = .ok (.bipush 7, 2) := by decide +kernel
set_option maxRecDepth 20000 in
theorem dX5_know_10 : decode cX5_know 10 = .ok (.iaload, 1) := by decide +kernel
set_option maxRecDepth 20000 in
theorem dX5_know_11 : decode cX5_know 11 = .ok (.imul, 1) := by decide +kernel
set_option maxRecDepth 20000 in
theorem dX5_know_12 : decode cX5_know 12 = .ok (.iadd, 1) := by decide +kernel
set_option maxRecDepth 20000 in
theorem dX5_know_13 : decode cX5_know 13 = .ok (.istore 5, 2) := by decide +kernel
set_option maxRecDepth 20000 in
theorem dX5_know_15 : decode cX5_know 15 = .ok (.aload_n 0, 1) := by decide +kernel
set_option maxRecDepth 20000 in
theorem dX5_know_16 : decode cX5_know 16 = .ok (.getfield 38, 3) := by decide +kernel
set_option maxRecDepth 20000 in
theorem dX5_know_19 : decode cX5_know 19 = .ok (.iload 5, 2) := by decide +kernel
set_option maxRecDepth 20000 in
theorem dX5_know_21 : decode cX5_know 21 = .ok (.iload_n 1, 1) := by decide +kernel
set_option maxRecDepth 20000 in
theorem dX5_know_22 : decode cX5_know 22 = .ok (.iastore, 1) := by decide +kernel
set_option maxRecDepth 20000 in
theorem dX5_know_23 : decode cX5_know 23 = .ok (.aload_n 0, 1) := by decide +kernel
set_option maxRecDepth 20000 in
theorem dX5_know_24 : decode cX5_know 24 = .ok (.getfield 38, 3) := by decide +kernel
set_option maxRecDepth 20000 in
theorem dX5_know_27 : decode cX5_know 27 = .ok (.iload 5, 2) := by decide +kernel
set_option maxRecDepth 20000 in
theorem dX5_know_29 : decode cX5_know 29 = .ok (.iconst 1, 1) := by decide +kernel
set_option maxRecDepth 20000 in
theorem dX5_know_30 : decode cX5_know 30 = .ok (.iadd, 1) := by decide +kernel
set_option maxRecDepth 20000 in
theorem dX5_know_31 : decode cX5_know 31 = .ok (.aload_n 0, 1) := by decide +kernel
set_option maxRecDepth 20000 in
theorem dX5_know_32 : decode cX5_know 32 = .ok (.getfield 38, 3) := by decide +kernel
set_option maxRecDepth 20000 in
theorem dX5_know_35 : decode cX5_know 35 = .ok (.iload_n 1, 1) := by decide +kernel
set_option maxRecDepth 20000 in
theorem dX5_know_36 : decode cX5_know 36 = .ok (.iaload, 1) := by decide +kernel
set_option maxRecDepth 20000 in
theorem dX5_know_37 : decode cX5_know 37 = .ok (.iastore, 1) := by decide +kernel
set_option maxRecDepth 20000 in
theorem dX5_know_38 : decode cX5_know 38 = .ok (.aload_n 0, 1) := by decide +kernel
set_option maxRecDepth 20000 in
theorem dX5_know_39 : decode cX5_know 39 = .ok (.getfield 38, 3) := by decide +kernel
set_option maxRecDepth 20000 in
theorem dX5_know_42 : decode cX5_know 42 = .ok (.iload 5, 2) := by decide +kernel
set_option maxRecDepth 20000 in
theorem dX5_know_44 : decode cX5_know 44 = .ok (.iconst 2, 1) := by decide +kernel
set_option maxRecDepth 20000 in
theorem dX5_know_45 : decode cX5_know 45 = .ok (.iadd, 1) := by decide +kernel
set_option maxRecDepth 20000 in
theorem dX5_know_46 : decode cX5_know 46 = .ok (.aload_n 0, 1) := by decide +kernel
set_option maxRecDepth 20000 in
theorem dX5_know_47 : decode cX5_know 47 = .ok (.getfield 38, 3) := by decide +kernel
set_option maxRecDepth 20000 in
theorem dX5_know_50 : decode cX5_know 50 = .ok (.bipush 6, 2) := by decide +kernel
set_option maxRecDepth 20000 in
theorem dX5_know_52 : decode cX5_know 52 = .ok (.iaload, 1) := by decide +kernel
set_option maxRecDepth 20000 in
theorem dX5_know_53 : decode cX5_know 53 = .ok (.iastore, 1) := by decide +kernel
set_option maxRecDepth 20000 in
theorem dX5_know_54 : decode cX5_know 54 = .ok (.aload_n 0, 1) := by decide +kernel
set_option maxRecDepth 20000 in
theorem dX5_know_55 : decode cX5_know 55 = .ok (.getfield 38, 3) := by decide +kernel
set_option maxRecDepth 20000 in
theorem dX5_know_58 : decode cX5_know 58 = .ok (.iload 5, 2) := by decide +kernel
set_option maxRecDepth 20000 in
theorem dX5_know_60 : decode cX5_know 60 = .ok (.iconst 3, 1) := by decide +kernel
set_option maxRecDepth 20000 in
theorem dX5_know_61 : decode cX5_know 61 = .ok (.iadd, 1) := by decide +kernel
set_option maxRecDepth 20000 in
theorem dX5_know_62 : decode cX5_know 62 = .ok (.iload_n 2, 1) := by decide +kernel
set_option maxRecDepth 20000 in
theorem dX5_know_63 : decode cX5_know 63 = .ok (.iastore, 1) := by decide +kernel
set_option maxRecDepth 20000 in
theorem dX5_know_64 : decode cX5_know 64 = .ok (.aload_n 0, 1) := by decide +kernel
set_option maxRecDepth 20000 in
theorem dX5_know_65 : decode cX5_know 65 = .ok (.getfield 38, 3) := by decide +kernel
set_option maxRecDepth 20000 in
theorem dX5_know_68 : decode cX5_know 68 = .ok (.iload 5, 2) := by decide +kernel
set_option maxRecDepth 20000 in
theorem dX5_know_70 : decode cX5_know 70 = .ok (.iconst 4, 1) := by decide +kernel
set_option maxRecDepth 20000 in
theorem dX5_know_71 : decode cX5_know 71 = .ok (.iadd, 1) := by decide +kernel
set_option maxRecDepth 20000 in
theorem dX5_know_72 : decode cX5_know 72 = .ok (.iload_n 3, 1) := by decide +kernel
set_option maxRecDepth 20000 in
theorem dX5_know_73 : decode cX5_know 73 = .ok (.iastore, 1) := by decide +kernel
set_option maxRecDepth 20000 in
theorem dX5_know_74 : decode cX5_know 74 = .ok (.aload_n 0, 1) := by decide +kernel
set_option maxRecDepth 20000 in
theorem dX5_know_75 : decode cX5_know 75 = .ok (.getfield 38, 3) := by decide +kernel
set_option maxRecDepth 20000 in
theorem dX5_know_78 : decode cX5_know 78 = .ok (.iload 5, 2) := by decide +kernel
set_option maxRecDepth 20000 in
theorem dX5_know_80 : decode cX5_know 80 = .ok (.iconst 5, 1) := by decide +kernel
set_option maxRecDepth 20000 in
theorem dX5_know_81 : decode cX5_know 81 = .ok (.iadd, 1) := by decide +kernel
set_option maxRecDepth 20000 in
theorem dX5_know_82 : decode cX5_know 82 = .ok (.iload 4, 2) := by decide +kernel
set_option maxRecDepth 20000 in
theorem dX5_know_84 : decode cX5_know 84 = .ok (.iastore, 1) := by decide +kernel
set_option maxRecDepth 20000 in
theorem dX5_know_85 : decode cX5_know 85 = .ok (.aload_n 0, 1) := by decide +kernel
set_option maxRecDepth 20000 in
theorem dX5_know_86 : decode cX5_know 86 = .ok (.getfield 38, 3) := by decide +kernel
set_option maxRecDepth 20000 in
theorem dX5_know_89 : decode cX5_know 89 = .ok (.bipush 7, 2) := by decide +kernel
set_option maxRecDepth 20000 in
theorem dX5_know_91 : decode cX5_know 91 = .ok (.dup2, 1) := by decide +kernel
set_option maxRecDepth 20000 in
theorem dX5_know_92 : decode cX5_know 92 = .ok (.iaload, 1) := by decide +kernel
set_option maxRecDepth 20000 in
theorem dX5_know_93 : decode cX5_know 93 = .ok (.iconst 1, 1) := by decide +kernel
set_option maxRecDepth 20000 in
theorem dX5_know_94 : decode cX5_know 94 = .ok (.iadd, 1) := by decide +kernel
set_option maxRecDepth 20000 in
theorem dX5_know_95 : decode cX5_know 95 = .ok (.iastore, 1) := by decide +kernel
set_option maxRecDepth 20000 in
theorem dX5_know_96 : decode cX5_know 96 = .ok (.return_, 1) := by decide +kernel
set_option maxRecDepth 20000 in
theorem dX5_weighs_0 : decode cX5_weighs 0 = .ok (.aload_n 0, 1) := by decide +kernel
set_option maxRecDepth 20000 in
theorem dX5_weighs_1 : decode cX5_weighs 1 = .ok (.iload_n 1, 1) := by decide +kernel
set_option maxRecDepth 20000 in
theorem dX5_weighs_2 : decode cX5_weighs 2 = .ok (.invokevirtual 109, 3) := by decide +kernel
set_option maxRecDepth 20000 in
theorem dX5_weighs_5 : decode cX5_weighs 5 = .ok (.ifCond .eq 11, 3) := by decide +kernel
set_option maxRecDepth 20000 in
theorem dX5_weighs_8 : decode cX5_weighs 8 = .ok (.aload_n 0, 1) := by decide +kernel
set_option maxRecDepth 20000 in
theorem dX5_weighs_9 : decode cX5_weighs 9 = .ok (.iload_n 2, 1) := by decide +kernel
set_option maxRecDepth 20000 in
theorem dX5_weighs_10 : decode cX5_weighs 10 = .ok (.invokevirtual 105, 3) := by decide +kernel
set_option maxRecDepth 20000 in
theorem dX5_weighs_13 : decode cX5_weighs 13 = .ok (.ifCond .ne 5, 3) := by decide +kernel
set_option maxRecDepth 20000 in
theorem dX5_weighs_16 : decode cX5_weighs 16 = .ok (.iconst (-1), 1) := by decide +kernel
set_option maxRecDepth 20000 in
theorem dX5_weighs_17 : decode cX5_weighs 17 = .ok (.ireturn, 1) := by decide +kernel
set_option maxRecDepth 20000 in
theorem dX5_weighs_18 : decode cX5_weighs 18 = .ok (.aload_n 0, 1) := by decide +kernel
set_option maxRecDepth 20000 in
theorem dX5_weighs_19 : decode cX5_weighs 19 = .ok (.getfield 38, 3) := by decide +kernel
set_option maxRecDepth 20000 in
theorem dX5_weighs_22 : decode cX5_weighs 22 = .ok (.bipush 7, 2) := by decide +kernel
set_option maxRecDepth 20000 in
theorem dX5_weighs_24 : decode cX5_weighs 24 = .ok (.iaload, 1) := by decide +kernel
set_option maxRecDepth 20000 in
theorem dX5_weighs_25 : decode cX5_weighs 25 = .ok (.bipush 12, 2) := by decide +kernel
set_option maxRecDepth 20000 in
theorem dX5_weighs_27 : decode cX5_weighs 27 = .ok (.if_icmp .ne 6, 3) := by decide +kernel
set_option maxRecDepth 20000 in
theorem dX5_weighs_30 : decode cX5_weighs 30 = .ok (.bipush (-3), 2) := by decide +kernel
set_option maxRecDepth 20000 in
theorem dX5_weighs_32 : decode cX5_weighs 32 = .ok (.ireturn, 1) := by decide +kernel
set_option maxRecDepth 20000 in
theorem dX5_weighs_33 : decode cX5_weighs 33 = .ok (.aload_n 0, 1) := by decide +kernel
set_option maxRecDepth 20000 in
theorem dX5_weighs_34 : decode cX5_weighs 34 = .ok (.iload_n 1, 1) := by decide +kernel
set_option maxRecDepth 20000 in
theorem dX5_weighs_35 : decode cX5_weighs 35 = .ok (.aload_n 0, 1) := by decide +kernel
set_option maxRecDepth 20000 in
theorem dX5_weighs_36 : decode cX5_weighs 36 = .ok (.getfield 17, 3) := by decide +kernel
set_option maxRecDepth 20000 in
theorem dX5_weighs_39 : decode cX5_weighs 39 = .ok (.iload_n 2, 1) := by decide +kernel
set_option maxRecDepth 20000 in
theorem dX5_weighs_40 : decode cX5_weighs 40 = .ok (.iaload, 1) := by decide +kernel
set_option maxRecDepth 20000 in
theorem dX5_weighs_41 : decode cX5_weighs 41 = .ok (.aload_n 0, 1) := by decide +kernel
set_option maxRecDepth 20000 in
theorem dX5_weighs_42 : decode cX5_weighs 42 = .ok (.getfield 38, 3) := by decide +kernel
set_option maxRecDepth 20000 in
theorem dX5_weighs_45 : decode cX5_weighs 45 = .ok (.iload_n 1, 1) := by decide +kernel
set_option maxRecDepth 20000 in
theorem dX5_weighs_46 : decode cX5_weighs 46 = .ok (.iaload, 1) := by decide +kernel
set_option maxRecDepth 20000 in
theorem dX5_weighs_47 : decode cX5_weighs 47 = .ok (.aload_n 0, 1) := by decide +kernel
set_option maxRecDepth 20000 in
theorem dX5_weighs_48 : decode cX5_weighs 48 = .ok (.getfield 38, 3) := by decide +kernel
set_option maxRecDepth 20000 in
theorem dX5_weighs_51 : decode cX5_weighs 51 = .ok (.bipush 6, 2) := by decide +kernel
set_option maxRecDepth 20000 in
theorem dX5_weighs_53 : decode cX5_weighs 53 = .ok (.iaload, 1) := by decide +kernel
set_option maxRecDepth 20000 in
theorem dX5_weighs_54 : decode cX5_weighs 54 = .ok (.invokevirtual 112, 3) := by decide +kernel
set_option maxRecDepth 20000 in
theorem dX5_weighs_57 : decode cX5_weighs 57 = .ok (.istore_n 3, 1) := by decide +kernel
set_option maxRecDepth 20000 in
theorem dX5_weighs_58 : decode cX5_weighs 58 = .ok (.aload_n 0, 1) := by decide +kernel
set_option maxRecDepth 20000 in
theorem dX5_weighs_59 : decode cX5_weighs 59 = .ok (.iload_n 1, 1) := by decide +kernel
set_option maxRecDepth 20000 in
theorem dX5_weighs_60 : decode cX5_weighs 60 = .ok (.iload_n 2, 1) := by decide +kernel
set_option maxRecDepth 20000 in
theorem dX5_weighs_61 : decode cX5_weighs 61 = .ok (.iload_n 3, 1) := by decide +kernel
set_option maxRecDepth 20000 in
theorem dX5_weighs_62 : decode cX5_weighs 62 = .ok (.iconst 0, 1) := by decide +kernel
set_option maxRecDepth 20000 in
theorem dX5_weighs_63 : decode cX5_weighs 63 = .ok (.invokevirtual 116, 3) := by decide +kernel
set_option maxRecDepth 20000 in
theorem dX5_weighs_66 : decode cX5_weighs 66 = .ok (.aload_n 0, 1) := by decide +kernel
set_option maxRecDepth 20000 in
theorem dX5_weighs_67 : decode cX5_weighs 67 = .ok (.getfield 38, 3) := by decide +kernel
set_option maxRecDepth 20000 in
theorem dX5_weighs_70 : decode cX5_weighs 70 = .ok (.iload_n 1, 1) := by decide +kernel
set_option maxRecDepth 20000 in
theorem dX5_weighs_71 : decode cX5_weighs 71 = .ok (.dup2, 1) := by decide +kernel
set_option maxRecDepth 20000 in
theorem dX5_weighs_72 : decode cX5_weighs 72 = .ok (.iaload, 1) := by decide +kernel
set_option maxRecDepth 20000 in
theorem dX5_weighs_73 : decode cX5_weighs 73 = .ok (.iconst 1, 1) := by decide +kernel
set_option maxRecDepth 20000 in
theorem dX5_weighs_74 : decode cX5_weighs 74 = .ok (.iadd, 1) := by decide +kernel
set_option maxRecDepth 20000 in
theorem dX5_weighs_75 : decode cX5_weighs 75 = .ok (.iastore, 1) := by decide +kernel
set_option maxRecDepth 20000 in
theorem dX5_weighs_76 : decode cX5_weighs 76 = .ok (.iload_n 3, 1) := by decide +kernel
set_option maxRecDepth 20000 in
theorem dX5_weighs_77 : decode cX5_weighs 77 = .ok (.ireturn, 1) := by decide +kernel
set_option maxRecDepth 20000 in
theorem dX5_says_0 : decode cX5_says 0 = .ok (.aload_n 0, 1) := by decide +kernel
set_option maxRecDepth 20000 in
theorem dX5_says_1 : decode cX5_says 1 = .ok (.iload_n 1, 1) := by decide +kernel
set_option maxRecDepth 20000 in
theorem dX5_says_2 : decode cX5_says 2 = .ok (.invokevirtual 109, 3) := by decide +kernel
set_option maxRecDepth 20000 in
theorem dX5_says_5 : decode cX5_says 5 = .ok (.ifCond .eq 21, 3) := by decide +kernel
set_option maxRecDepth 20000 in
theorem dX5_says_8 : decode cX5_says 8 = .ok (.aload_n 0, 1) := by decide +kernel
set_option maxRecDepth 20000 in
theorem dX5_says_9 : decode cX5_says 9 = .ok (.iload_n 2, 1) := by decide +kernel
set_option maxRecDepth 20000 in
theorem dX5_says_10 : decode cX5_says 10 = .ok (.invokevirtual 105, 3) := by decide +kernel
set_option maxRecDepth 20000 in
theorem dX5_says_13 : decode cX5_says 13 = .ok (.ifCond .eq 13, 3) := by decide +kernel
set_option maxRecDepth 20000 in
theorem dX5_says_16 : decode cX5_says 16 = .ok (.iload_n 3, 1) := by decide +kernel
set_option maxRecDepth 20000 in
theorem dX5_says_17 : decode cX5_says 17 = .ok (.iconst 0, 1) := by decide +kernel
set_option maxRecDepth 20000 in
theorem dX5_says_18 : decode cX5_says 18 = .ok (.bipush 99, 2) := by decide +kernel
set_option maxRecDepth 20000 in
theorem dX5_says_20 : decode cX5_says 20 = .ok (.invokestatic 52, 3) := by decide +kernel
set_option maxRecDepth 20000 in
theorem dX5_says_23 : decode cX5_says 23 = .ok (.ifCond .ne 5, 3) := by decide +kernel
set_option maxRecDepth 20000 in
theorem dX5_says_26 : decode cX5_says 26 = .ok (.iconst (-1), 1) := by decide +kernel
set_option maxRecDepth 20000 in
theorem dX5_says_27 : decode cX5_says 27 = .ok (.ireturn, 1) := by decide +kernel
set_option maxRecDepth 20000 in
theorem dX5_says_28 : decode cX5_says 28 = .ok (.aload_n 0, 1) := by decide +kernel
set_option maxRecDepth 20000 in
theorem dX5_says_29 : decode cX5_says 29 = .ok (.getfield 38, 3) := by decide +kernel
set_option maxRecDepth 20000 in
theorem dX5_says_32 : decode cX5_says 32 = .ok (.bipush 7, 2) := by decide +kernel
set_option maxRecDepth 20000 in
theorem dX5_says_34 : decode cX5_says 34 = .ok (.iaload, 1) := by decide +kernel
set_option maxRecDepth 20000 in
theorem dX5_says_35 : decode cX5_says 35 = .ok (.bipush 12, 2) := by decide +kernel
set_option maxRecDepth 20000 in
theorem dX5_says_37 : decode cX5_says 37 = .ok (.if_icmp .ne 6, 3) := by decide +kernel
set_option maxRecDepth 20000 in
theorem dX5_says_40 : decode cX5_says 40 = .ok (.bipush (-3), 2) := by decide +kernel
set_option maxRecDepth 20000 in
theorem dX5_says_42 : decode cX5_says 42 = .ok (.ireturn, 1) := by decide +kernel
set_option maxRecDepth 20000 in
theorem dX5_says_43 : decode cX5_says 43 = .ok (.aload_n 0, 1) := by decide +kernel
set_option maxRecDepth 20000 in
theorem dX5_says_44 : decode cX5_says 44 = .ok (.iload_n 1, 1) := by decide +kernel
set_option maxRecDepth 20000 in
theorem dX5_says_45 : decode cX5_says 45 = .ok (.iload_n 2, 1) := by decide +kernel
set_option maxRecDepth 20000 in
theorem dX5_says_46 : decode cX5_says 46 = .ok (.iload_n 3, 1) := by decide +kernel
set_option maxRecDepth 20000 in
theorem dX5_says_47 : decode cX5_says 47 = .ok (.iconst 1, 1) := by decide +kernel
set_option maxRecDepth 20000 in
theorem dX5_says_48 : decode cX5_says 48 = .ok (.invokevirtual 116, 3) := by decide +kernel
set_option maxRecDepth 20000 in
theorem dX5_says_51 : decode cX5_says 51 = .ok (.aload_n 0, 1) := by decide +kernel
set_option maxRecDepth 20000 in
theorem dX5_says_52 : decode cX5_says 52 = .ok (.getfield 38, 3) := by decide +kernel
set_option maxRecDepth 20000 in
theorem dX5_says_55 : decode cX5_says 55 = .ok (.bipush 7, 2) := by decide +kernel
set_option maxRecDepth 20000 in
theorem dX5_says_57 : decode cX5_says 57 = .ok (.iaload, 1) := by decide +kernel
set_option maxRecDepth 20000 in
theorem dX5_says_58 : decode cX5_says 58 = .ok (.ireturn, 1) := by decide +kernel
set_option maxRecDepth 20000 in
theorem dX5_jug_0 : decode cX5_jug 0 = .ok (.aload_n 0, 1) := by decide +kernel
set_option maxRecDepth 20000 in
theorem dX5_jug_1 : decode cX5_jug 1 = .ok (.iload_n 1, 1) := by decide +kernel
set_option maxRecDepth 20000 in
theorem dX5_jug_2 : decode cX5_jug 2 = .ok (.invokevirtual 109, 3) := by decide +kernel
set_option maxRecDepth 20000 in
theorem dX5_jug_5 : decode cX5_jug 5 = .ok (.ifCond .eq 46, 3) := by decide +kernel
set_option maxRecDepth 20000 in
theorem dX5_jug_8 : decode cX5_jug 8 = .ok (.aload_n 0, 1) := by decide +kernel
set_option maxRecDepth 20000 in
theorem dX5_jug_9 : decode cX5_jug 9 = .ok (.iload_n 2, 1) := by decide +kernel
set_option maxRecDepth 20000 in
theorem dX5_jug_10 : decode cX5_jug 10 = .ok (.invokevirtual 109, 3) := by decide +kernel
set_option maxRecDepth 20000 in
theorem dX5_jug_13 : decode cX5_jug 13 = .ok (.ifCond .eq 38, 3) := by decide +kernel
set_option maxRecDepth 20000 in
theorem dX5_jug_16 : decode cX5_jug 16 = .ok (.iload_n 1, 1) := by decide +kernel
set_option maxRecDepth 20000 in
theorem dX5_jug_17 : decode cX5_jug 17 = .ok (.iload_n 2, 1) := by decide +kernel
set_option maxRecDepth 20000 in
theorem dX5_jug_18 : decode cX5_jug 18 = .ok (.if_icmp .eq 33, 3) := by decide +kernel
set_option maxRecDepth 20000 in
theorem dX5_jug_21 : decode cX5_jug 21 = .ok (.aload_n 0, 1) := by decide +kernel
set_option maxRecDepth 20000 in
theorem dX5_jug_22 : decode cX5_jug 22 = .ok (.iload_n 3, 1) := by decide +kernel
set_option maxRecDepth 20000 in
theorem dX5_jug_23 : decode cX5_jug 23 = .ok (.invokevirtual 105, 3) := by decide +kernel
set_option maxRecDepth 20000 in
theorem dX5_jug_26 : decode cX5_jug 26 = .ok (.ifCond .eq 25, 3) := by decide +kernel
set_option maxRecDepth 20000 in
theorem dX5_jug_29 : decode cX5_jug 29 = .ok (.iload 4, 2) := by decide +kernel
set_option maxRecDepth 20000 in
theorem dX5_jug_31 : decode cX5_jug 31 = .ok (.iconst 0, 1) := by decide +kernel
set_option maxRecDepth 20000 in
theorem dX5_jug_32 : decode cX5_jug 32 = .ok (.sipush 999, 3) := by decide +kernel
set_option maxRecDepth 20000 in
theorem dX5_jug_35 : decode cX5_jug 35 = .ok (.invokestatic 52, 3) := by decide +kernel
set_option maxRecDepth 20000 in
theorem dX5_jug_38 : decode cX5_jug 38 = .ok (.ifCond .eq 13, 3) := by decide +kernel
set_option maxRecDepth 20000 in
theorem dX5_jug_41 : decode cX5_jug 41 = .ok (.iload 5, 2) := by decide +kernel
set_option maxRecDepth 20000 in
theorem dX5_jug_43 : decode cX5_jug 43 = .ok (.iconst 0, 1) := by decide +kernel
set_option maxRecDepth 20000 in
theorem dX5_jug_44 : decode cX5_jug 44 = .ok (.iconst 1, 1) := by decide +kernel
set_option maxRecDepth 20000 in
theorem dX5_jug_45 : decode cX5_jug 45 = .ok (.invokestatic 52, 3) := by decide +kernel
set_option maxRecDepth 20000 in
theorem dX5_jug_48 : decode cX5_jug 48 = .ok (.ifCond .ne 5, 3) := by decide +kernel
set_option maxRecDepth 20000 in
theorem dX5_jug_51 : decode cX5_jug 51 = .ok (.iconst (-1), 1) := by decide +kernel
set_option maxRecDepth 20000 in
theorem dX5_jug_52 : decode cX5_jug 52 = .ok (.ireturn, 1) := by decide +kernel
set_option maxRecDepth 20000 in
theorem dX5_jug_53 : decode cX5_jug 53 = .ok (.aload_n 0, 1) := by decide +kernel
set_option maxRecDepth 20000 in
theorem dX5_jug_54 : decode cX5_jug 54 = .ok (.iload_n 1, 1) := by decide +kernel
set_option maxRecDepth 20000 in
theorem dX5_jug_55 : decode cX5_jug 55 = .ok (.aload_n 0, 1) := by decide +kernel
set_option maxRecDepth 20000 in
theorem dX5_jug_56 : decode cX5_jug 56 = .ok (.getfield 17, 3) := by decide +kernel
set_option maxRecDepth 20000 in
theorem dX5_jug_59 : decode cX5_jug 59 = .ok (.iload_n 3, 1) := by decide +kernel
set_option maxRecDepth 20000 in
theorem dX5_jug_60 : decode cX5_jug 60 = .ok (.iaload, 1) := by decide +kernel
set_option maxRecDepth 20000 in
theorem dX5_jug_61 : decode cX5_jug 61 = .ok (.aload_n 0, 1) := by decide +kernel
set_option maxRecDepth 20000 in
theorem dX5_jug_62 : decode cX5_jug 62 = .ok (.getfield 38, 3) := by decide +kernel
set_option maxRecDepth 20000 in
theorem dX5_jug_65 : decode cX5_jug 65 = .ok (.iload_n 1, 1) := by decide +kernel
set_option maxRecDepth 20000 in
theorem dX5_jug_66 : decode cX5_jug 66 = .ok (.iaload, 1) := by decide +kernel
set_option maxRecDepth 20000 in
theorem dX5_jug_67 : decode cX5_jug 67 = .ok (.aload_n 0, 1) := by decide +kernel
set_option maxRecDepth 20000 in
theorem dX5_jug_68 : decode cX5_jug 68 = .ok (.getfield 38, 3) := by decide +kernel
set_option maxRecDepth 20000 in
theorem dX5_jug_71 : decode cX5_jug 71 = .ok (.bipush 6, 2) := by decide +kernel
set_option maxRecDepth 20000 in
theorem dX5_jug_73 : decode cX5_jug 73 = .ok (.iaload, 1) := by decide +kernel
set_option maxRecDepth 20000 in
theorem dX5_jug_74 : decode cX5_jug 74 = .ok (.invokevirtual 112, 3) := by decide +kernel
set_option maxRecDepth 20000 in
theorem dX5_jug_77 : decode cX5_jug 77 = .ok (.istore 6, 2) := by decide +kernel
set_option maxRecDepth 20000 in
theorem dX5_jug_79 : decode cX5_jug 79 = .ok (.iload 6, 2) := by decide +kernel
set_option maxRecDepth 20000 in
theorem dX5_jug_81 : decode cX5_jug 81 = .ok (.iload 4, 2) := by decide +kernel
set_option maxRecDepth 20000 in
theorem dX5_jug_83 : decode cX5_jug 83 = .ok (.if_icmp .le 8, 3) := by decide +kernel
set_option maxRecDepth 20000 in
theorem dX5_jug_86 : decode cX5_jug 86 = .ok (.iload 4, 2) := by decide +kernel
set_option maxRecDepth 20000 in
theorem dX5_jug_88 : decode cX5_jug 88 = .ok (.goto 5, 3) := by decide +kernel
set_option maxRecDepth 20000 in
theorem dX5_jug_91 : decode cX5_jug 91 = .ok (.iload 6, 2) := by decide +kernel
set_option maxRecDepth 20000 in
theorem dX5_jug_93 : decode cX5_jug 93 = .ok (.istore 6, 2) := by decide +kernel
set_option maxRecDepth 20000 in
theorem dX5_jug_95 : decode cX5_jug 95 = .ok (.aload_n 0, 1) := by decide +kernel
set_option maxRecDepth 20000 in
theorem dX5_jug_96 : decode cX5_jug 96 = .ok (.iload_n 2, 1) := by decide +kernel
set_option maxRecDepth 20000 in
theorem dX5_jug_97 : decode cX5_jug 97 = .ok (.aload_n 0, 1) := by decide +kernel
set_option maxRecDepth 20000 in
theorem dX5_jug_98 : decode cX5_jug 98 = .ok (.getfield 17, 3) := by decide +kernel
set_option maxRecDepth 20000 in
theorem dX5_jug_101 : decode cX5_jug 101 = .ok (.iload_n 3, 1) := by decide +kernel
set_option maxRecDepth 20000 in
theorem dX5_jug_102 : decode cX5_jug 102 = .ok (.iaload, 1) := by decide +kernel
set_option maxRecDepth 20000 in
theorem dX5_jug_103 : decode cX5_jug 103 = .ok (.aload_n 0, 1) := by decide +kernel
set_option maxRecDepth 20000 in
theorem dX5_jug_104 : decode cX5_jug 104 = .ok (.getfield 38, 3) := by decide +kernel
set_option maxRecDepth 20000 in
theorem dX5_jug_107 : decode cX5_jug 107 = .ok (.iload_n 2, 1) := by decide +kernel
set_option maxRecDepth 20000 in
theorem dX5_jug_108 : decode cX5_jug 108 = .ok (.iaload, 1) := by decide +kernel
set_option maxRecDepth 20000 in
theorem dX5_jug_109 : decode cX5_jug 109 = .ok (.aload_n 0, 1) := by decide +kernel
set_option maxRecDepth 20000 in
theorem dX5_jug_110 : decode cX5_jug 110 = .ok (.getfield 38, 3) := by decide +kernel
set_option maxRecDepth 20000 in
theorem dX5_jug_113 : decode cX5_jug 113 = .ok (.bipush 6, 2) := by decide +kernel
set_option maxRecDepth 20000 in
theorem dX5_jug_115 : decode cX5_jug 115 = .ok (.iaload, 1) := by decide +kernel
set_option maxRecDepth 20000 in
theorem dX5_jug_116 : decode cX5_jug 116 = .ok (.invokevirtual 112, 3) := by decide +kernel
set_option maxRecDepth 20000 in
theorem dX5_jug_119 : decode cX5_jug 119 = .ok (.istore 7, 2) := by decide +kernel
set_option maxRecDepth 20000 in
theorem dX5_jug_121 : decode cX5_jug 121 = .ok (.iload 7, 2) := by decide +kernel
set_option maxRecDepth 20000 in
theorem dX5_jug_123 : decode cX5_jug 123 = .ok (.iload 4, 2) := by decide +kernel
set_option maxRecDepth 20000 in
theorem dX5_jug_125 : decode cX5_jug 125 = .ok (.iload 6, 2) := by decide +kernel
set_option maxRecDepth 20000 in
theorem dX5_jug_127 : decode cX5_jug 127 = .ok (.isub, 1) := by decide +kernel
set_option maxRecDepth 20000 in
theorem dX5_jug_128 : decode cX5_jug 128 = .ok (.if_icmp .le 11, 3) := by decide +kernel
set_option maxRecDepth 20000 in
theorem dX5_jug_131 : decode cX5_jug 131 = .ok (.iload 4, 2) := by decide +kernel
set_option maxRecDepth 20000 in
theorem dX5_jug_133 : decode cX5_jug 133 = .ok (.iload 6, 2) := by decide +kernel
set_option maxRecDepth 20000 in
theorem dX5_jug_135 : decode cX5_jug 135 = .ok (.isub, 1) := by decide +kernel
set_option maxRecDepth 20000 in
theorem dX5_jug_136 : decode cX5_jug 136 = .ok (.goto 5, 3) := by decide +kernel
set_option maxRecDepth 20000 in
theorem dX5_jug_139 : decode cX5_jug 139 = .ok (.iload 7, 2) := by decide +kernel
set_option maxRecDepth 20000 in
theorem dX5_jug_141 : decode cX5_jug 141 = .ok (.istore 7, 2) := by decide +kernel
set_option maxRecDepth 20000 in
theorem dX5_jug_143 : decode cX5_jug 143 = .ok (.aload_n 0, 1) := by decide +kernel
set_option maxRecDepth 20000 in
theorem dX5_jug_144 : decode cX5_jug 144 = .ok (.getfield 38, 3) := by decide +kernel
set_option maxRecDepth 20000 in
theorem dX5_jug_147 : decode cX5_jug 147 = .ok (.iload_n 1, 1) := by decide +kernel
set_option maxRecDepth 20000 in
theorem dX5_jug_148 : decode cX5_jug 148 = .ok (.dup2, 1) := by decide +kernel
set_option maxRecDepth 20000 in
theorem dX5_jug_149 : decode cX5_jug 149 = .ok (.iaload, 1) := by decide +kernel
set_option maxRecDepth 20000 in
theorem dX5_jug_150 : decode cX5_jug 150 = .ok (.iconst 1, 1) := by decide +kernel
set_option maxRecDepth 20000 in
theorem dX5_jug_151 : decode cX5_jug 151 = .ok (.iadd, 1) := by decide +kernel
set_option maxRecDepth 20000 in
theorem dX5_jug_152 : decode cX5_jug 152 = .ok (.iastore, 1) := by decide +kernel
set_option maxRecDepth 20000 in
theorem dX5_jug_153 : decode cX5_jug 153 = .ok (.aload_n 0, 1) := by decide +kernel
set_option maxRecDepth 20000 in
theorem dX5_jug_154 : decode cX5_jug 154 = .ok (.getfield 38, 3) := by decide +kernel
set_option maxRecDepth 20000 in
theorem dX5_jug_157 : decode cX5_jug 157 = .ok (.iload_n 2, 1) := by decide +kernel
set_option maxRecDepth 20000 in
theorem dX5_jug_158 : decode cX5_jug 158 = .ok (.dup2, 1) := by decide +kernel
set_option maxRecDepth 20000 in
theorem dX5_jug_159 : decode cX5_jug 159 = .ok (.iaload, 1) := by decide +kernel
set_option maxRecDepth 20000 in
theorem dX5_jug_160 : decode cX5_jug 160 = .ok (.iconst 1, 1) := by decide +kernel
set_option maxRecDepth 20000 in
theorem dX5_jug_161 : decode cX5_jug 161 = .ok (.iadd, 1) := by decide +kernel
set_option maxRecDepth 20000 in
theorem dX5_jug_162 : decode cX5_jug 162 = .ok (.iastore, 1) := by decide +kernel
set_option maxRecDepth 20000 in
theorem dX5_jug_163 : decode cX5_jug 163 = .ok (.iload 5, 2) := by decide +kernel
set_option maxRecDepth 20000 in
theorem dX5_jug_165 : decode cX5_jug 165 = .ok (.ifCond .ne 11, 3) := by decide +kernel
set_option maxRecDepth 20000 in
theorem dX5_jug_168 : decode cX5_jug 168 = .ok (.iload 6, 2) := by decide +kernel
set_option maxRecDepth 20000 in
theorem dX5_jug_170 : decode cX5_jug 170 = .ok (.iload 7, 2) := by decide +kernel
set_option maxRecDepth 20000 in
theorem dX5_jug_172 : decode cX5_jug 172 = .ok (.iadd, 1) := by decide +kernel
set_option maxRecDepth 20000 in
theorem dX5_jug_173 : decode cX5_jug 173 = .ok (.goto 5, 3) := by decide +kernel
set_option maxRecDepth 20000 in
theorem dX5_jug_176 : decode cX5_jug 176 = .ok (.iload 7, 2) := by decide +kernel
set_option maxRecDepth 20000 in
theorem dX5_jug_178 : decode cX5_jug 178 = .ok (.ireturn, 1) := by decide +kernel
set_option maxRecDepth 20000 in
theorem dX5_night_0 : decode cX5_night 0 = .ok (.iconst 0, 1) := by decide +kernel
set_option maxRecDepth 20000 in
theorem dX5_night_1 : decode cX5_night 1 = .ok (.istore_n 1, 1) := by decide +kernel
set_option maxRecDepth 20000 in
theorem dX5_night_2 : decode cX5_night 2 = .ok (.iconst 0, 1) := by decide +kernel
set_option maxRecDepth 20000 in
theorem dX5_night_3 : decode cX5_night 3 = .ok (.istore_n 2, 1) := by decide +kernel
set_option maxRecDepth 20000 in
theorem dX5_night_4 : decode cX5_night 4 = .ok (.iload_n 2, 1) := by decide +kernel
set_option maxRecDepth 20000 in
theorem dX5_night_5 : decode cX5_night 5 = .ok (.bipush 6, 2) := by decide +kernel
set_option maxRecDepth 20000 in
theorem dX5_night_7 : decode cX5_night 7 = .ok (.if_icmp .ge 25, 3) := by decide +kernel
set_option maxRecDepth 20000 in
theorem dX5_night_10 : decode cX5_night 10 = .ok (.iload_n 1, 1) := by decide +kernel
set_option maxRecDepth 20000 in
theorem dX5_night_11 : decode cX5_night 11 = .ok (.aload_n 0, 1) := by decide +kernel
set_option maxRecDepth 20000 in
theorem dX5_night_12 : decode cX5_night 12 = .ok (.getfield 38, 3) := by decide +kernel
set_option maxRecDepth 20000 in
theorem dX5_night_15 : decode cX5_night 15 = .ok (.iload_n 2, 1) := by decide +kernel
set_option maxRecDepth 20000 in
theorem dX5_night_16 : decode cX5_night 16 = .ok (.iaload, 1) := by decide +kernel
set_option maxRecDepth 20000 in
theorem dX5_night_17 : decode cX5_night 17 = .ok (.iadd, 1) := by decide +kernel
set_option maxRecDepth 20000 in
theorem dX5_night_18 : decode cX5_night 18 = .ok (.istore_n 1, 1) := by decide +kernel
set_option maxRecDepth 20000 in
theorem dX5_night_19 : decode cX5_night 19 = .ok (.aload_n 0, 1) := by decide +kernel
set_option maxRecDepth 20000 in
theorem dX5_night_20 : decode cX5_night 20 = .ok (.getfield 38, 3) := by decide +kernel
set_option maxRecDepth 20000 in
theorem dX5_night_23 : decode cX5_night 23 = .ok (.iload_n 2, 1) := by decide +kernel
set_option maxRecDepth 20000 in
theorem dX5_night_24 : decode cX5_night 24 = .ok (.iconst 0, 1) := by decide +kernel
set_option maxRecDepth 20000 in
theorem dX5_night_25 : decode cX5_night 25 = .ok (.iastore, 1) := by decide +kernel
set_option maxRecDepth 20000 in
theorem dX5_night_26 : decode cX5_night 26 = .ok (.iinc 2 1, 3) := by decide +kernel
set_option maxRecDepth 20000 in
theorem dX5_night_29 : decode cX5_night 29 = .ok (.goto (-25), 3) := by decide +kernel
set_option maxRecDepth 20000 in
theorem dX5_night_32 : decode cX5_night 32 = .ok (.iload_n 1, 1) := by decide +kernel
set_option maxRecDepth 20000 in
theorem dX5_night_33 : decode cX5_night 33 = .ok (.ireturn, 1) := by decide +kernel
set_option maxRecDepth 20000 in
theorem dX5_heat_0 : decode cX5_heat 0 = .ok (.iload_n 1, 1) := by decide +kernel
set_option maxRecDepth 20000 in
theorem dX5_heat_1 : decode cX5_heat 1 = .ok (.iconst 0, 1) := by decide +kernel
set_option maxRecDepth 20000 in
theorem dX5_heat_2 : decode cX5_heat 2 = .ok (.bipush 9, 2) := by decide +kernel
set_option maxRecDepth 20000 in
theorem dX5_heat_4 : decode cX5_heat 4 = .ok (.invokestatic 52, 3) := by decide +kernel
set_option maxRecDepth 20000 in
theorem dX5_heat_7 : decode cX5_heat 7 = .ok (.ifCond .ne 5, 3) := by decide +kernel
set_option maxRecDepth 20000 in
theorem dX5_heat_10 : decode cX5_heat 10 = .ok (.iconst (-1), 1) := by decide +kernel
set_option maxRecDepth 20000 in
theorem dX5_heat_11 : decode cX5_heat 11 = .ok (.ireturn, 1) := by decide +kernel
set_option maxRecDepth 20000 in
theorem dX5_heat_12 : decode cX5_heat 12 = .ok (.aload_n 0, 1) := by decide +kernel
set_option maxRecDepth 20000 in
theorem dX5_heat_13 : decode cX5_heat 13 = .ok (.getfield 38, 3) := by decide +kernel
set_option maxRecDepth 20000 in
theorem dX5_heat_16 : decode cX5_heat 16 = .ok (.bipush 6, 2) := by decide +kernel
set_option maxRecDepth 20000 in
theorem dX5_heat_18 : decode cX5_heat 18 = .ok (.iaload, 1) := by decide +kernel
set_option maxRecDepth 20000 in
theorem dX5_heat_19 : decode cX5_heat 19 = .ok (.istore_n 2, 1) := by decide +kernel
set_option maxRecDepth 20000 in
theorem dX5_heat_20 : decode cX5_heat 20 = .ok (.aload_n 0, 1) := by decide +kernel
set_option maxRecDepth 20000 in
theorem dX5_heat_21 : decode cX5_heat 21 = .ok (.getfield 38, 3) := by decide +kernel
set_option maxRecDepth 20000 in
theorem dX5_heat_24 : decode cX5_heat 24 = .ok (.bipush 6, 2) := by decide +kernel
set_option maxRecDepth 20000 in
theorem dX5_heat_26 : decode cX5_heat 26 = .ok (.iload_n 1, 1) := by decide +kernel
set_option maxRecDepth 20000 in
theorem dX5_heat_27 : decode cX5_heat 27 = .ok (.iastore, 1) := by decide +kernel
set_option maxRecDepth 20000 in
theorem dX5_heat_28 : decode cX5_heat 28 = .ok (.iload_n 2, 1) := by decide +kernel
set_option maxRecDepth 20000 in
theorem dX5_heat_29 : decode cX5_heat 29 = .ok (.ireturn, 1) := by decide +kernel
set_option maxRecDepth 20000 in
theorem dX5_undo_0 : decode cX5_undo 0 = .ok (.aload_n 0, 1) := by decide +kernel
set_option maxRecDepth 20000 in
theorem dX5_undo_1 : decode cX5_undo 1 = .ok (.getfield 38, 3) := by decide +kernel
set_option maxRecDepth 20000 in
theorem dX5_undo_4 : decode cX5_undo 4 = .ok (.bipush 7, 2) := by decide +kernel
set_option maxRecDepth 20000 in
theorem dX5_undo_6 : decode cX5_undo 6 = .ok (.iaload, 1) := by decide +kernel
set_option maxRecDepth 20000 in
theorem dX5_undo_7 : decode cX5_undo 7 = .ok (.ifCond .ne 6, 3) := by decide +kernel
set_option maxRecDepth 20000 in
theorem dX5_undo_10 : decode cX5_undo 10 = .ok (.bipush (-2), 2) := by decide +kernel
set_option maxRecDepth 20000 in
theorem dX5_undo_12 : decode cX5_undo 12 = .ok (.ireturn, 1) := by decide +kernel
set_option maxRecDepth 20000 in
theorem dX5_undo_13 : decode cX5_undo 13 = .ok (.aload_n 0, 1) := by decide +kernel
set_option maxRecDepth 20000 in
theorem dX5_undo_14 : decode cX5_undo 14 = .ok (.getfield 38, 3) := by decide +kernel
set_option maxRecDepth 20000 in
theorem dX5_undo_17 : decode cX5_undo 17 = .ok (.bipush 7, 2) := by decide +kernel
set_option maxRecDepth 20000 in
theorem dX5_undo_19 : decode cX5_undo 19 = .ok (.dup2, 1) := by decide +kernel
set_option maxRecDepth 20000 in
theorem dX5_undo_20 : decode cX5_undo 20 = .ok (.iaload, 1) := by decide +kernel
set_option maxRecDepth 20000 in
theorem dX5_undo_21 : decode cX5_undo 21 = .ok (.iconst 1, 1) := by decide +kernel
set_option maxRecDepth 20000 in
theorem dX5_undo_22 : decode cX5_undo 22 = .ok (.isub, 1) := by decide +kernel
set_option maxRecDepth 20000 in
theorem dX5_undo_23 : decode cX5_undo 23 = .ok (.iastore, 1) := by decide +kernel
set_option maxRecDepth 20000 in
theorem dX5_undo_24 : decode cX5_undo 24 = .ok (.bipush 8, 2) := by decide +kernel
set_option maxRecDepth 20000 in
theorem dX5_undo_26 : decode cX5_undo 26 = .ok (.bipush 6, 2) := by decide +kernel
set_option maxRecDepth 20000 in
theorem dX5_undo_28 : decode cX5_undo 28 = .ok (.aload_n 0, 1) := by decide +kernel
set_option maxRecDepth 20000 in
theorem dX5_undo_29 : decode cX5_undo 29 = .ok (.getfield 38, 3) := by decide +kernel
set_option maxRecDepth 20000 in
theorem dX5_undo_32 : decode cX5_undo 32 = .ok (.bipush 7, 2) := by decide +kernel
set_option maxRecDepth 20000 in
theorem dX5_undo_34 : decode cX5_undo 34 = .ok (.iaload, 1) := by decide +kernel
set_option maxRecDepth 20000 in
theorem dX5_undo_35 : decode cX5_undo 35 = .ok (.imul, 1) := by decide +kernel
set_option maxRecDepth 20000 in
theorem dX5_undo_36 : decode cX5_undo 36 = .ok (.iadd, 1) := by decide +kernel
set_option maxRecDepth 20000 in
theorem dX5_undo_37 : decode cX5_undo 37 = .ok (.istore_n 1, 1) := by decide +kernel
set_option maxRecDepth 20000 in
theorem dX5_undo_38 : decode cX5_undo 38 = .ok (.aload_n 0, 1) := by decide +kernel
set_option maxRecDepth 20000 in
theorem dX5_undo_39 : decode cX5_undo 39 = .ok (.getfield 38, 3) := by decide +kernel
set_option maxRecDepth 20000 in
theorem dX5_undo_42 : decode cX5_undo 42 = .ok (.iload_n 1, 1) := by decide +kernel
set_option maxRecDepth 20000 in
theorem dX5_undo_43 : decode cX5_undo 43 = .ok (.iaload, 1) := by decide +kernel
set_option maxRecDepth 20000 in
theorem dX5_undo_44 : decode cX5_undo 44 = .ok (.istore_n 2, 1) := by decide +kernel
set_option maxRecDepth 20000 in
theorem dX5_undo_45 : decode cX5_undo 45 = .ok (.aload_n 0, 1) := by decide +kernel
set_option maxRecDepth 20000 in
theorem dX5_undo_46 : decode cX5_undo 46 = .ok (.getfield 38, 3) := by decide +kernel
set_option maxRecDepth 20000 in
theorem dX5_undo_49 : decode cX5_undo 49 = .ok (.iload_n 2, 1) := by decide +kernel
set_option maxRecDepth 20000 in
theorem dX5_undo_50 : decode cX5_undo 50 = .ok (.dup2, 1) := by decide +kernel
set_option maxRecDepth 20000 in
theorem dX5_undo_51 : decode cX5_undo 51 = .ok (.iaload, 1) := by decide +kernel
set_option maxRecDepth 20000 in
theorem dX5_undo_52 : decode cX5_undo 52 = .ok (.aload_n 0, 1) := by decide +kernel
set_option maxRecDepth 20000 in
theorem dX5_undo_53 : decode cX5_undo 53 = .ok (.getfield 38, 3) := by decide +kernel
set_option maxRecDepth 20000 in
theorem dX5_undo_56 : decode cX5_undo 56 = .ok (.iload_n 1, 1) := by decide +kernel
set_option maxRecDepth 20000 in
theorem dX5_undo_57 : decode cX5_undo 57 = .ok (.iconst 5, 1) := by decide +kernel
set_option maxRecDepth 20000 in
theorem dX5_undo_58 : decode cX5_undo 58 = .ok (.iadd, 1) := by decide +kernel
set_option maxRecDepth 20000 in
theorem dX5_undo_59 : decode cX5_undo 59 = .ok (.iaload, 1) := by decide +kernel
set_option maxRecDepth 20000 in
theorem dX5_undo_60 : decode cX5_undo 60 = .ok (.ifCond .ne 16, 3) := by decide +kernel
set_option maxRecDepth 20000 in
theorem dX5_undo_63 : decode cX5_undo 63 = .ok (.aload_n 0, 1) := by decide +kernel
set_option maxRecDepth 20000 in
theorem dX5_undo_64 : decode cX5_undo 64 = .ok (.getfield 38, 3) := by decide +kernel
set_option maxRecDepth 20000 in
theorem dX5_undo_67 : decode cX5_undo 67 = .ok (.iload_n 2, 1) := by decide +kernel
set_option maxRecDepth 20000 in
theorem dX5_undo_68 : decode cX5_undo 68 = .ok (.iaload, 1) := by decide +kernel
set_option maxRecDepth 20000 in
theorem dX5_undo_69 : decode cX5_undo 69 = .ok (.ifCond .le 7, 3) := by decide +kernel
set_option maxRecDepth 20000 in
theorem dX5_undo_72 : decode cX5_undo 72 = .ok (.iconst 1, 1) := by decide +kernel
set_option maxRecDepth 20000 in
theorem dX5_undo_73 : decode cX5_undo 73 = .ok (.goto 4, 3) := by decide +kernel
set_option maxRecDepth 20000 in
theorem dX5_undo_76 : decode cX5_undo 76 = .ok (.iconst 0, 1) := by decide +kernel
set_option maxRecDepth 20000 in
theorem dX5_undo_77 : decode cX5_undo 77 = .ok (.isub, 1) := by decide +kernel
set_option maxRecDepth 20000 in
theorem dX5_undo_78 : decode cX5_undo 78 = .ok (.iastore, 1) := by decide +kernel
set_option maxRecDepth 20000 in
theorem dX5_undo_79 : decode cX5_undo 79 = .ok (.aload_n 0, 1) := by decide +kernel
set_option maxRecDepth 20000 in
theorem dX5_undo_80 : decode cX5_undo 80 = .ok (.getfield 38, 3) := by decide +kernel
set_option maxRecDepth 20000 in
theorem dX5_undo_83 : decode cX5_undo 83 = .ok (.bipush 7, 2) := by decide +kernel
set_option maxRecDepth 20000 in
theorem dX5_undo_85 : decode cX5_undo 85 = .ok (.iaload, 1) := by decide +kernel
set_option maxRecDepth 20000 in
theorem dX5_undo_86 : decode cX5_undo 86 = .ok (.ireturn, 1) := by decide +kernel
set_option maxRecDepth 20000 in
theorem dX5_known_0 : decode cX5_known 0 = .ok (.iload_n 1, 1) := by decide +kernel
set_option maxRecDepth 20000 in
theorem dX5_known_1 : decode cX5_known 1 = .ok (.iconst 0, 1) := by decide +kernel
set_option maxRecDepth 20000 in
theorem dX5_known_2 : decode cX5_known 2 = .ok (.aload_n 0, 1) := by decide +kernel
set_option maxRecDepth 20000 in
theorem dX5_known_3 : decode cX5_known 3 = .ok (.getfield 38, 3) := by decide +kernel
set_option maxRecDepth 20000 in
theorem dX5_known_6 : decode cX5_known 6 = .ok (.bipush 7, 2) := by decide +kernel
set_option maxRecDepth 20000 in
theorem dX5_known_8 : decode cX5_known 8 = .ok (.iaload, 1) := by decide +kernel
set_option maxRecDepth 20000 in
theorem dX5_known_9 : decode cX5_known 9 = .ok (.iconst 1, 1) := by decide +kernel
set_option maxRecDepth 20000 in
theorem dX5_known_10 : decode cX5_known 10 = .ok (.isub, 1) := by decide +kernel
set_option maxRecDepth 20000 in
theorem dX5_known_11 : decode cX5_known 11 = .ok (.invokestatic 52, 3) := by decide +kernel
set_option maxRecDepth 20000 in
theorem dX5_known_14 : decode cX5_known 14 = .ok (.ifCond .eq 29, 3) := by decide +kernel
set_option maxRecDepth 20000 in
theorem dX5_known_17 : decode cX5_known 17 = .ok (.iload_n 2, 1) := by decide +kernel
set_option maxRecDepth 20000 in
theorem dX5_known_18 : decode cX5_known 18 = .ok (.iconst 0, 1) := by decide +kernel
set_option maxRecDepth 20000 in
theorem dX5_known_19 : decode cX5_known 19 = .ok (.iconst 5, 1) := by decide +kernel
set_option maxRecDepth 20000 in
theorem dX5_known_20 : decode cX5_known 20 = .ok (.invokestatic 52, 3) := by decide +kernel
set_option maxRecDepth 20000 in
theorem dX5_known_23 : decode cX5_known 23 = .ok (.ifCond .eq 20, 3) := by decide +kernel
set_option maxRecDepth 20000 in
theorem dX5_known_26 : decode cX5_known 26 = .ok (.aload_n 0, 1) := by decide +kernel
set_option maxRecDepth 20000 in
theorem dX5_known_27 : decode cX5_known 27 = .ok (.getfield 38, 3) := by decide +kernel
set_option maxRecDepth 20000 in
theorem dX5_known_30 : decode cX5_known 30 = .ok (.bipush 8, 2) := by decide +kernel
set_option maxRecDepth 20000 in
theorem dX5_known_32 : decode cX5_known 32 = .ok (.bipush 6, 2) := by decide +kernel
set_option maxRecDepth 20000 in
theorem dX5_known_34 : decode cX5_known 34 = .ok (.iload_n 1, 1) := by decide +kernel
set_option maxRecDepth 20000 in
theorem dX5_known_35 : decode cX5_known 35 = .ok (.imul, 1) := by decide +kernel
set_option maxRecDepth 20000 in
theorem dX5_known_36 : decode cX5_known 36 = .ok (.iadd, 1) := by decide +kernel
set_option maxRecDepth 20000 in
theorem dX5_known_37 : decode cX5_known 37 = .ok (.iload_n 2, 1) := by decide +kernel
set_option maxRecDepth 20000 in
theorem dX5_known_38 : decode cX5_known 38 = .ok (.iadd, 1) := by decide +kernel
set_option maxRecDepth 20000 in
theorem dX5_known_39 : decode cX5_known 39 = .ok (.iaload, 1) := by decide +kernel
set_option maxRecDepth 20000 in
theorem dX5_known_40 : decode cX5_known 40 = .ok (.goto 4, 3) := by decide +kernel
set_option maxRecDepth 20000 in
theorem dX5_known_43 : decode cX5_known 43 = .ok (.iconst (-1), 1) := by decide +kernel
set_option maxRecDepth 20000 in
theorem dX5_known_44 : decode cX5_known 44 = .ok (.ireturn, 1) := by decide +kernel
set_option maxRecDepth 20000 in
theorem dX5_canBeOf_0 : decode cX5_canBeOf 0 = .ok (.lconst 0, 1) := by decide +kernel
set_option maxRecDepth 20000 in
theorem dX5_canBeOf_1 : decode cX5_canBeOf 1 = .ok (.lstore_n 2, 1) := by decide +kernel
set_option maxRecDepth 20000 in
theorem dX5_canBeOf_2 : decode cX5_canBeOf 2 = .ok (.iconst 0, 1) := by decide +kernel
set_option maxRecDepth 20000 in
theorem dX5_canBeOf_3 : decode cX5_canBeOf 3 = .ok (.istore 4, 2) := by decide +kernel
set_option maxRecDepth 20000 in
theorem dX5_canBeOf_5 : decode cX5_canBeOf 5 = .ok (.iload 4, 2) := by decide +kernel
set_option maxRecDepth 20000 in
theorem dX5_canBeOf_7 : decode cX5_canBeOf 7 = .ok (.bipush 60, 2) := by decide +kernel
set_option maxRecDepth 20000 in
theorem dX5_canBeOf_9 : decode cX5_canBeOf 9 = .ok (.if_icmp .gt 140, 3) := by decide +kernel
set_option maxRecDepth 20000 in
theorem dX5_canBeOf_12 : decode cX5_canBeOf 12 = .ok (.iconst 1, 1) := by decide +kernel
set_option maxRecDepth 20000 in
theorem dX5_canBeOf_13 : decode cX5_canBeOf 13 = .ok (.istore 5, 2) := by decide +kernel
set_option maxRecDepth 20000 in
theorem dX5_canBeOf_15 : decode cX5_canBeOf 15 = .ok (.iconst 0, 1) := by decide +kernel
set_option maxRecDepth 20000 in
theorem dX5_canBeOf_16 : decode cX5_canBeOf 16 = .ok (.istore 6, 2) := by decide +kernel
set_option maxRecDepth 20000 in
theorem dX5_canBeOf_18 : decode cX5_canBeOf 18 = .ok (.iload 6, 2) := by decide +kernel
set_option maxRecDepth 20000 in
theorem dX5_canBeOf_20 : decode cX5_canBeOf 20 = .ok (.aload_n 0, 1) := by decide +kernel
set_option maxRecDepth 20000 in
theorem dX5_canBeOf_21 : decode cX5_canBeOf 21 = .ok (.getfield 38, 3) := by decide +kernel
set_option maxRecDepth 20000 in
theorem dX5_canBeOf_24 : decode cX5_canBeOf 24 = .ok (.bipush 7, 2) := by decide +kernel
set_option maxRecDepth 20000 in
theorem dX5_canBeOf_26 : decode cX5_canBeOf 26 = .ok (.iaload, 1) := by decide +kernel
set_option maxRecDepth 20000 in
theorem dX5_canBeOf_27 : decode cX5_canBeOf 27 = .ok (.if_icmp .ge 100, 3) := by decide +kernel
set_option maxRecDepth 20000 in
theorem dX5_canBeOf_30 : decode cX5_canBeOf 30 = .ok (.bipush 8, 2) := by decide +kernel
set_option maxRecDepth 20000 in
theorem dX5_canBeOf_32 : decode cX5_canBeOf 32 = .ok (.bipush 6, 2) := by decide +kernel
set_option maxRecDepth 20000 in
theorem dX5_canBeOf_34 : decode cX5_canBeOf 34 = .ok (.iload 6, 2) := by decide +kernel
set_option maxRecDepth 20000 in
theorem dX5_canBeOf_36 : decode cX5_canBeOf 36 = .ok (.imul, 1) := by decide +kernel
set_option maxRecDepth 20000 in
theorem dX5_canBeOf_37 : decode cX5_canBeOf 37 = .ok (.iadd, 1) := by decide +kernel
set_option maxRecDepth 20000 in
theorem dX5_canBeOf_38 : decode cX5_canBeOf 38 = .ok (.istore 7, 2) := by decide +kernel
set_option maxRecDepth 20000 in
theorem dX5_canBeOf_40 : decode cX5_canBeOf 40 = .ok (.iload 5, 2) := by decide +kernel
set_option maxRecDepth 20000 in
theorem dX5_canBeOf_42 : decode cX5_canBeOf 42 = .ok (.ifCond .eq 76, 3) := by decide +kernel
set_option maxRecDepth 20000 in
theorem dX5_canBeOf_45 : decode cX5_canBeOf 45 = .ok (.aload_n 0, 1) := by decide +kernel
set_option maxRecDepth 20000 in
theorem dX5_canBeOf_46 : decode cX5_canBeOf 46 = .ok (.getfield 38, 3) := by decide +kernel
set_option maxRecDepth 20000 in
theorem dX5_canBeOf_49 : decode cX5_canBeOf 49 = .ok (.iload 7, 2) := by decide +kernel
set_option maxRecDepth 20000 in
theorem dX5_canBeOf_51 : decode cX5_canBeOf 51 = .ok (.iconst 5, 1) := by decide +kernel
set_option maxRecDepth 20000 in
theorem dX5_canBeOf_52 : decode cX5_canBeOf 52 = .ok (.iadd, 1) := by decide +kernel
set_option maxRecDepth 20000 in
theorem dX5_canBeOf_53 : decode cX5_canBeOf 53 = .ok (.iaload, 1) := by decide +kernel
set_option maxRecDepth 20000 in
theorem dX5_canBeOf_54 : decode cX5_canBeOf 54 = .ok (.iconst 1, 1) := by decide +kernel
set_option maxRecDepth 20000 in
theorem dX5_canBeOf_55 : decode cX5_canBeOf 55 = .ok (.if_icmp .eq 59, 3) := by decide +kernel
set_option maxRecDepth 20000 in
theorem dX5_canBeOf_58 : decode cX5_canBeOf 58 = .ok (.aload_n 0, 1) := by decide +kernel
set_option maxRecDepth 20000 in
theorem dX5_canBeOf_59 : decode cX5_canBeOf 59 = .ok (.getfield 38, 3) := by decide +kernel
set_option maxRecDepth 20000 in
theorem dX5_canBeOf_62 : decode cX5_canBeOf 62 = .ok (.iload 7, 2) := by decide +kernel
set_option maxRecDepth 20000 in
theorem dX5_canBeOf_64 : decode cX5_canBeOf 64 = .ok (.iconst 3, 1) := by decide +kernel
set_option maxRecDepth 20000 in
theorem dX5_canBeOf_65 : decode cX5_canBeOf 65 = .ok (.iadd, 1) := by decide +kernel
set_option maxRecDepth 20000 in
theorem dX5_canBeOf_66 : decode cX5_canBeOf 66 = .ok (.iaload, 1) := by decide +kernel
set_option maxRecDepth 20000 in
theorem dX5_canBeOf_67 : decode cX5_canBeOf 67 = .ok (.iload_n 1, 1) := by decide +kernel
set_option maxRecDepth 20000 in
theorem dX5_canBeOf_68 : decode cX5_canBeOf 68 = .ok (.if_icmp .ne 46, 3) := by decide +kernel
set_option maxRecDepth 20000 in
theorem dX5_canBeOf_71 : decode cX5_canBeOf 71 = .ok (.aload_n 0, 1) := by decide +kernel
set_option maxRecDepth 20000 in
theorem dX5_canBeOf_72 : decode cX5_canBeOf 72 = .ok (.aload_n 0, 1) := by decide +kernel
set_option maxRecDepth 20000 in
theorem dX5_canBeOf_73 : decode cX5_canBeOf 73 = .ok (.getfield 38, 3) := by decide +kernel
set_option maxRecDepth 20000 in
theorem dX5_canBeOf_76 : decode cX5_canBeOf 76 = .ok (.iload 7, 2) := by decide +kernel
set_option maxRecDepth 20000 in
theorem dX5_canBeOf_78 : decode cX5_canBeOf 78 = .ok (.iaload, 1) := by decide +kernel
set_option maxRecDepth 20000 in
theorem dX5_canBeOf_79 : decode cX5_canBeOf 79 = .ok (.iload 4, 2) := by decide +kernel
set_option maxRecDepth 20000 in
theorem dX5_canBeOf_81 : decode cX5_canBeOf 81 = .ok (.aload_n 0, 1) := by decide +kernel
set_option maxRecDepth 20000 in
theorem dX5_canBeOf_82 : decode cX5_canBeOf 82 = .ok (.getfield 38, 3) := by decide +kernel
set_option maxRecDepth 20000 in
theorem dX5_canBeOf_85 : decode cX5_canBeOf 85 = .ok (.iload 7, 2) := by decide +kernel
set_option maxRecDepth 20000 in
theorem dX5_canBeOf_87 : decode cX5_canBeOf 87 = .ok (.iconst 1, 1) := by decide +kernel
set_option maxRecDepth 20000 in
theorem dX5_canBeOf_88 : decode cX5_canBeOf 88 = .ok (.iadd, 1) := by decide +kernel
set_option maxRecDepth 20000 in
theorem dX5_canBeOf_89 : decode cX5_canBeOf 89 = .ok (.iaload, 1) := by decide +kernel
set_option maxRecDepth 20000 in
theorem dX5_canBeOf_90 : decode cX5_canBeOf 90 = .ok (.aload_n 0, 1) := by decide +kernel
set_option maxRecDepth 20000 in
theorem dX5_canBeOf_91 : decode cX5_canBeOf 91 = .ok (.getfield 38, 3) := by decide +kernel
set_option maxRecDepth 20000 in
theorem dX5_canBeOf_94 : decode cX5_canBeOf 94 = .ok (.iload 7, 2) := by decide +kernel
set_option maxRecDepth 20000 in
theorem dX5_canBeOf_96 : decode cX5_canBeOf 96 = .ok (.iconst 2, 1) := by decide +kernel
set_option maxRecDepth 20000 in
theorem dX5_canBeOf_97 : decode cX5_canBeOf 97 = .ok (.iadd, 1) := by decide +kernel
set_option maxRecDepth 20000 in
theorem dX5_canBeOf_98 : decode cX5_canBeOf 98 = .ok (.iaload, 1) := by decide +kernel
set_option maxRecDepth 20000 in
theorem dX5_canBeOf_99 : decode cX5_canBeOf 99 = .ok (.invokevirtual 112, 3) := by decide +kernel
set_option maxRecDepth 20000 in
theorem dX5_canBeOf_102 : decode cX5_canBeOf 102 = .ok (.aload_n 0, 1) := by decide +kernel
set_option maxRecDepth 20000 in
theorem dX5_canBeOf_103 : decode cX5_canBeOf 103 = .ok (.getfield 38, 3) := by decide +kernel
set_option maxRecDepth 20000 in
theorem dX5_canBeOf_106 : decode cX5_canBeOf 106 = .ok (.iload 7, 2) := by decide +kernel
set_option maxRecDepth 20000 in
theorem dX5_canBeOf_108 : decode cX5_canBeOf 108 = .ok (.iconst 4, 1) := by decide +kernel
set_option maxRecDepth 20000 in
theorem dX5_canBeOf_109 : decode cX5_canBeOf 109 = .ok (.iadd, 1) := by decide +kernel
set_option maxRecDepth 20000 in
theorem dX5_canBeOf_110 : decode cX5_canBeOf 110 = .ok (.iaload, 1) := by decide +kernel
set_option maxRecDepth 20000 in
theorem dX5_canBeOf_111 : decode cX5_canBeOf 111 = .ok (.if_icmp .ne 7, 3) := by decide +kernel
set_option maxRecDepth 20000 in
theorem dX5_canBeOf_114 : decode cX5_canBeOf 114 = .ok (.iconst 1, 1) := by decide +kernel
set_option maxRecDepth 20000 in
theorem dX5_canBeOf_115 : decode cX5_canBeOf 115 = .ok (.goto 4, 3) := by decide +kernel
set_option maxRecDepth 20000 in
theorem dX5_canBeOf_118 : decode cX5_canBeOf 118 = .ok (.iconst 0, 1) := by decide +kernel
set_option maxRecDepth 20000 in
theorem dX5_canBeOf_119 : decode cX5_canBeOf 119 = .ok (.istore 5, 2) := by decide +kernel
set_option maxRecDepth 20000 in
theorem dX5_canBeOf_121 : decode cX5_canBeOf 121 = .ok (.iinc 6 1, 3) := by decide +kernel
set_option maxRecDepth 20000 in
theorem dX5_canBeOf_124 : decode cX5_canBeOf 124 = .ok (.goto (-106), 3) := by decide +kernel
set_option maxRecDepth 20000 in
theorem dX5_canBeOf_127 : decode cX5_canBeOf 127 = .ok (.lload_n 2, 1) := by decide +kernel
set_option maxRecDepth 20000 in
theorem dX5_canBeOf_128 : decode cX5_canBeOf 128 = .ok (.iload 5, 2) := by decide +kernel
set_option maxRecDepth 20000 in
theorem dX5_canBeOf_130 : decode cX5_canBeOf 130 = .ok (.ifCond .eq 10, 3) := by decide +kernel
set_option maxRecDepth 20000 in
theorem dX5_canBeOf_133 : decode cX5_canBeOf 133 = .ok (.lconst 1, 1) := by decide +kernel
set_option maxRecDepth 20000 in
theorem dX5_canBeOf_134 : decode cX5_canBeOf 134 = .ok (.iload 4, 2) := by decide +kernel
set_option maxRecDepth 20000 in
theorem dX5_canBeOf_136 : decode cX5_canBeOf 136 = .ok (.lshl, 1) := by decide +kernel
set_option maxRecDepth 20000 in
theorem dX5_canBeOf_137 : decode cX5_canBeOf 137 = .ok (.goto 4, 3) := by decide +kernel
set_option maxRecDepth 20000 in
theorem dX5_canBeOf_140 : decode cX5_canBeOf 140 = .ok (.lconst 0, 1) := by decide +kernel
set_option maxRecDepth 20000 in
theorem dX5_canBeOf_141 : decode cX5_canBeOf 141 = .ok (.lor, 1) := by decide +kernel
set_option maxRecDepth 20000 in
theorem dX5_canBeOf_142 : decode cX5_canBeOf 142 = .ok (.lstore_n 2, 1) := by decide +kernel
set_option maxRecDepth 20000 in
theorem dX5_canBeOf_143 : decode cX5_canBeOf 143 = .ok (.iinc 4 1, 3) := by decide +kernel
set_option maxRecDepth 20000 in
theorem dX5_canBeOf_146 : decode cX5_canBeOf 146 = .ok (.goto (-141), 3) := by decide +kernel
set_option maxRecDepth 20000 in
theorem dX5_canBeOf_149 : decode cX5_canBeOf 149 = .ok (.lload_n 2, 1) := by decide +kernel
set_option maxRecDepth 20000 in
theorem dX5_canBeOf_150 : decode cX5_canBeOf 150 = .ok (.lreturn, 1) := by decide +kernel
set_option maxRecDepth 20000 in
theorem dX5_manyOf_0 : decode cX5_manyOf 0 = .ok (.iconst 0, 1) := by decide +kernel
set_option maxRecDepth 20000 in
theorem dX5_manyOf_1 : decode cX5_manyOf 1 = .ok (.istore_n 2, 1) := by decide +kernel
set_option maxRecDepth 20000 in
theorem dX5_manyOf_2 : decode cX5_manyOf 2 = .ok (.iconst 0, 1) := by decide +kernel
set_option maxRecDepth 20000 in
theorem dX5_manyOf_3 : decode cX5_manyOf 3 = .ok (.istore_n 3, 1) := by decide +kernel
set_option maxRecDepth 20000 in
theorem dX5_manyOf_4 : decode cX5_manyOf 4 = .ok (.iload_n 3, 1) := by decide +kernel
set_option maxRecDepth 20000 in
theorem dX5_manyOf_5 : decode cX5_manyOf 5 = .ok (.bipush 60, 2) := by decide +kernel
set_option maxRecDepth 20000 in
theorem dX5_manyOf_7 : decode cX5_manyOf 7 = .ok (.if_icmp .gt 27, 3) := by decide +kernel
set_option maxRecDepth 20000 in
theorem dX5_manyOf_10 : decode cX5_manyOf 10 = .ok (.iload_n 2, 1) := by decide +kernel
set_option maxRecDepth 20000 in
theorem dX5_manyOf_11 : decode cX5_manyOf 11 = .ok (.lload_n 0, 1) := by decide +kernel
set_option maxRecDepth 20000 in
theorem dX5_manyOf_12 : decode cX5_manyOf 12 = .ok (.iload_n 3, 1) := by decide +kernel
set_option maxRecDepth 20000 in
theorem dX5_manyOf_13 : decode cX5_manyOf 13 = .ok (.lshr, 1) := by decide +kernel
set_option maxRecDepth 20000 in
theorem dX5_manyOf_14 : decode cX5_manyOf 14 = .ok (.lconst 1, 1) := by decide +kernel
set_option maxRecDepth 20000 in
theorem dX5_manyOf_15 : decode cX5_manyOf 15 = .ok (.land, 1) := by decide +kernel
set_option maxRecDepth 20000 in
theorem dX5_manyOf_16 : decode cX5_manyOf 16 = .ok (.lconst 1, 1) := by decide +kernel
set_option maxRecDepth 20000 in
theorem dX5_manyOf_17 : decode cX5_manyOf 17 = .ok (.lcmp, 1) := by decide +kernel
set_option maxRecDepth 20000 in
theorem dX5_manyOf_18 : decode cX5_manyOf 18 = .ok (.ifCond .ne 7, 3) := by decide +kernel
set_option maxRecDepth 20000 in
theorem dX5_manyOf_21 : decode cX5_manyOf 21 = .ok (.iconst 1, 1) := by decide +kernel
set_option maxRecDepth 20000 in
theorem dX5_manyOf_22 : decode cX5_manyOf 22 = .ok (.goto 4, 3) := by decide +kernel
set_option maxRecDepth 20000 in
theorem dX5_manyOf_25 : decode cX5_manyOf 25 = .ok (.iconst 0, 1) := by decide +kernel
set_option maxRecDepth 20000 in
theorem dX5_manyOf_26 : decode cX5_manyOf 26 = .ok (.iadd, 1) := by decide +kernel
set_option maxRecDepth 20000 in
theorem dX5_manyOf_27 : decode cX5_manyOf 27 = .ok (.istore_n 2, 1) := by decide +kernel
set_option maxRecDepth 20000 in
theorem dX5_manyOf_28 : decode cX5_manyOf 28 = .ok (.iinc 3 1, 3) := by decide +kernel
set_option maxRecDepth 20000 in
theorem dX5_manyOf_31 : decode cX5_manyOf 31 = .ok (.goto (-27), 3) := by decide +kernel
set_option maxRecDepth 20000 in
theorem dX5_manyOf_34 : decode cX5_manyOf 34 = .ok (.iload_n 2, 1) := by decide +kernel
set_option maxRecDepth 20000 in
theorem dX5_manyOf_35 : decode cX5_manyOf 35 = .ok (.ireturn, 1) := by decide +kernel
set_option maxRecDepth 20000 in
theorem dX5_least_0 : decode cX5_least 0 = .ok (.iconst 0, 1) := by decide +kernel
set_option maxRecDepth 20000 in
theorem dX5_least_1 : decode cX5_least 1 = .ok (.istore_n 2, 1) := by decide +kernel
set_option maxRecDepth 20000 in
theorem dX5_least_2 : decode cX5_least 2 = .ok (.lload_n 0, 1) := by decide +kernel
set_option maxRecDepth 20000 in
theorem dX5_least_3 : decode cX5_least 3 = .ok (.iload_n 2, 1) := by decide +kernel
set_option maxRecDepth 20000 in
theorem dX5_least_4 : decode cX5_least 4 = .ok (.lshr, 1) := by decide +kernel
set_option maxRecDepth 20000 in
theorem dX5_least_5 : decode cX5_least 5 = .ok (.lconst 1, 1) := by decide +kernel
set_option maxRecDepth 20000 in
theorem dX5_least_6 : decode cX5_least 6 = .ok (.land, 1) := by decide +kernel
set_option maxRecDepth 20000 in
theorem dX5_least_7 : decode cX5_least 7 = .ok (.lconst 0, 1) := by decide +kernel
set_option maxRecDepth 20000 in
theorem dX5_least_8 : decode cX5_least 8 = .ok (.lcmp, 1) := by decide +kernel
set_option maxRecDepth 20000 in
theorem dX5_least_9 : decode cX5_least 9 = .ok (.ifCond .ne 9, 3) := by decide +kernel
set_option maxRecDepth 20000 in
theorem dX5_least_12 : decode cX5_least 12 = .ok (.iinc 2 1, 3) := by decide +kernel
set_option maxRecDepth 20000 in
theorem dX5_least_15 : decode cX5_least 15 = .ok (.goto (-13), 3) := by decide +kernel
set_option maxRecDepth 20000 in
theorem dX5_least_18 : decode cX5_least 18 = .ok (.iload_n 2, 1) := by decide +kernel
set_option maxRecDepth 20000 in
theorem dX5_least_19 : decode cX5_least 19 = .ok (.ireturn, 1) := by decide +kernel
set_option maxRecDepth 20000 in
theorem dX5_most_0 : decode cX5_most 0 = .ok (.bipush 60, 2) := by decide +kernel
set_option maxRecDepth 20000 in
theorem dX5_most_2 : decode cX5_most 2 = .ok (.istore_n 2, 1) := by decide +kernel
set_option maxRecDepth 20000 in
theorem dX5_most_3 : decode cX5_most 3 = .ok (.lload_n 0, 1) := by decide +kernel
set_option maxRecDepth 20000 in
theorem dX5_most_4 : decode cX5_most 4 = .ok (.iload_n 2, 1) := by decide +kernel
set_option maxRecDepth 20000 in
theorem dX5_most_5 : decode cX5_most 5 = .ok (.lshr, 1) := by decide +kernel
set_option maxRecDepth 20000 in
theorem dX5_most_6 : decode cX5_most 6 = .ok (.lconst 1, 1) := by decide +kernel
set_option maxRecDepth 20000 in
theorem dX5_most_7 : decode cX5_most 7 = .ok (.land, 1) := by decide +kernel
set_option maxRecDepth 20000 in
theorem dX5_most_8 : decode cX5_most 8 = .ok (.lconst 0, 1) := by decide +kernel
set_option maxRecDepth 20000 in
theorem dX5_most_9 : decode cX5_most 9 = .ok (.lcmp, 1) := by decide +kernel
set_option maxRecDepth 20000 in
theorem dX5_most_10 : decode cX5_most 10 = .ok (.ifCond .ne 9, 3) := by decide +kernel
set_option maxRecDepth 20000 in
theorem dX5_most_13 : decode cX5_most 13 = .ok (.iinc 2 (-1), 3) := by decide +kernel
set_option maxRecDepth 20000 in
theorem dX5_most_16 : decode cX5_most 16 = .ok (.goto (-13), 3) := by decide +kernel
set_option maxRecDepth 20000 in
theorem dX5_most_19 : decode cX5_most 19 = .ok (.iload_n 2, 1) := by decide +kernel
set_option maxRecDepth 20000 in
theorem dX5_most_20 : decode cX5_most 20 = .ok (.ireturn, 1) := by decide +kernel
set_option maxRecDepth 20000 in
theorem dX5_canBe_0 : decode cX5_canBe 0 = .ok (.aload_n 0, 1) := by decide +kernel
set_option maxRecDepth 20000 in
theorem dX5_canBe_1 : decode cX5_canBe 1 = .ok (.iload_n 1, 1) := by decide +kernel
set_option maxRecDepth 20000 in
theorem dX5_canBe_2 : decode cX5_canBe 2 = .ok (.invokevirtual 105, 3) := by decide +kernel
set_option maxRecDepth 20000 in
theorem dX5_canBe_5 : decode cX5_canBe 5 = .ok (.ifCond .eq 12, 3) := by decide +kernel
set_option maxRecDepth 20000 in
theorem dX5_canBe_8 : decode cX5_canBe 8 = .ok (.iload_n 2, 1) := by decide +kernel
set_option maxRecDepth 20000 in
theorem dX5_canBe_9 : decode cX5_canBe 9 = .ok (.iconst 0, 1) := by decide +kernel
set_option maxRecDepth 20000 in
theorem dX5_canBe_10 : decode cX5_canBe 10 = .ok (.iconst 2, 1) := by decide +kernel
set_option maxRecDepth 20000 in
theorem dX5_canBe_11 : decode cX5_canBe 11 = .ok (.invokestatic 52, 3) := by decide +kernel
set_option maxRecDepth 20000 in
theorem dX5_canBe_14 : decode cX5_canBe 14 = .ok (.ifCond .ne 5, 3) := by decide +kernel
set_option maxRecDepth 20000 in
theorem dX5_canBe_17 : decode cX5_canBe 17 = .ok (.iconst (-1), 1) := by decide +kernel
set_option maxRecDepth 20000 in
theorem dX5_canBe_18 : decode cX5_canBe 18 = .ok (.ireturn, 1) := by decide +kernel
set_option maxRecDepth 20000 in
theorem dX5_canBe_19 : decode cX5_canBe 19 = .ok (.aload_n 0, 1) := by decide +kernel
set_option maxRecDepth 20000 in
theorem dX5_canBe_20 : decode cX5_canBe 20 = .ok (.iload_n 1, 1) := by decide +kernel
set_option maxRecDepth 20000 in
theorem dX5_canBe_21 : decode cX5_canBe 21 = .ok (.invokevirtual 120, 3) := by decide +kernel
set_option maxRecDepth 20000 in
theorem dX5_canBe_24 : decode cX5_canBe 24 = .ok (.lstore_n 3, 1) := by decide +kernel
set_option maxRecDepth 20000 in
theorem dX5_canBe_25 : decode cX5_canBe 25 = .ok (.iload_n 2, 1) := by decide +kernel
set_option maxRecDepth 20000 in
theorem dX5_canBe_26 : decode cX5_canBe 26 = .ok (.ifCond .ne 10, 3) := by decide +kernel
set_option maxRecDepth 20000 in
theorem dX5_canBe_29 : decode cX5_canBe 29 = .ok (.lload_n 3, 1) := by decide +kernel
set_option maxRecDepth 20000 in
theorem dX5_canBe_30 : decode cX5_canBe 30 = .ok (.invokestatic 124, 3) := by decide +kernel
set_option maxRecDepth 20000 in
theorem dX5_canBe_33 : decode cX5_canBe 33 = .ok (.goto 19, 3) := by decide +kernel
set_option maxRecDepth 20000 in
theorem dX5_canBe_36 : decode cX5_canBe 36 = .ok (.iload_n 2, 1) := by decide +kernel
set_option maxRecDepth 20000 in
theorem dX5_canBe_37 : decode cX5_canBe 37 = .ok (.iconst 1, 1) := by decide +kernel
set_option maxRecDepth 20000 in
theorem dX5_canBe_38 : decode cX5_canBe 38 = .ok (.if_icmp .ne 10, 3) := by decide +kernel
set_option maxRecDepth 20000 in
theorem dX5_canBe_41 : decode cX5_canBe 41 = .ok (.lload_n 3, 1) := by decide +kernel
set_option maxRecDepth 20000 in
theorem dX5_canBe_42 : decode cX5_canBe 42 = .ok (.invokestatic 128, 3) := by decide +kernel
set_option maxRecDepth 20000 in
theorem dX5_canBe_45 : decode cX5_canBe 45 = .ok (.goto 7, 3) := by decide +kernel
set_option maxRecDepth 20000 in
theorem dX5_canBe_48 : decode cX5_canBe 48 = .ok (.lload_n 3, 1) := by decide +kernel
set_option maxRecDepth 20000 in
theorem dX5_canBe_49 : decode cX5_canBe 49 = .ok (.invokestatic 131, 3) := by decide +kernel
set_option maxRecDepth 20000 in
theorem dX5_canBe_52 : decode cX5_canBe 52 = .ok (.ireturn, 1) := by decide +kernel
set_option maxRecDepth 20000 in
theorem dX5_part_0 : decode cX5_part 0 = .ok (.aload_n 0, 1) := by decide +kernel
set_option maxRecDepth 20000 in
theorem dX5_part_1 : decode cX5_part 1 = .ok (.iload_n 3, 1) := by decide +kernel
set_option maxRecDepth 20000 in
theorem dX5_part_2 : decode cX5_part 2 = .ok (.lload_n 1, 1) := by decide +kernel
set_option maxRecDepth 20000 in
theorem dX5_part_3 : decode cX5_part 3 = .ok (.invokestatic 128, 3) := by decide +kernel
set_option maxRecDepth 20000 in
theorem dX5_part_6 : decode cX5_part 6 = .ok (.aload_n 0, 1) := by decide +kernel
set_option maxRecDepth 20000 in
theorem dX5_part_7 : decode cX5_part 7 = .ok (.getfield 38, 3) := by decide +kernel
set_option maxRecDepth 20000 in
theorem dX5_part_10 : decode cX5_part 10 = .ok (.iload_n 3, 1) := by decide +kernel
set_option maxRecDepth 20000 in
theorem dX5_part_11 : decode cX5_part 11 = .ok (.iaload, 1) := by decide +kernel
set_option maxRecDepth 20000 in
theorem dX5_part_12 : decode cX5_part 12 = .ok (.aload_n 0, 1) := by decide +kernel
set_option maxRecDepth 20000 in
theorem dX5_part_13 : decode cX5_part 13 = .ok (.getfield 38, 3) := by decide +kernel
set_option maxRecDepth 20000 in
theorem dX5_part_16 : decode cX5_part 16 = .ok (.bipush 6, 2) := by decide +kernel
set_option maxRecDepth 20000 in
theorem dX5_part_18 : decode cX5_part 18 = .ok (.iaload, 1) := by decide +kernel
set_option maxRecDepth 20000 in
theorem dX5_part_19 : decode cX5_part 19 = .ok (.invokevirtual 112, 3) := by decide +kernel
set_option maxRecDepth 20000 in
theorem dX5_part_22 : decode cX5_part 22 = .ok (.istore 4, 2) := by decide +kernel
set_option maxRecDepth 20000 in
theorem dX5_part_24 : decode cX5_part 24 = .ok (.lconst 0, 1) := by decide +kernel
set_option maxRecDepth 20000 in
theorem dX5_part_25 : decode cX5_part 25 = .ok (.lstore 5, 2) := by decide +kernel
set_option maxRecDepth 20000 in
theorem dX5_part_27 : decode cX5_part 27 = .ok (.iconst 0, 1) := by decide +kernel
set_option maxRecDepth 20000 in
theorem dX5_part_28 : decode cX5_part 28 = .ok (.istore 7, 2) := by decide +kernel
set_option maxRecDepth 20000 in
theorem dX5_part_30 : decode cX5_part 30 = .ok (.iload 7, 2) := by decide +kernel
set_option maxRecDepth 20000 in
theorem dX5_part_32 : decode cX5_part 32 = .ok (.bipush 60, 2) := by decide +kernel
set_option maxRecDepth 20000 in
theorem dX5_part_34 : decode cX5_part 34 = .ok (.if_icmp .gt 58, 3) := by decide +kernel
set_option maxRecDepth 20000 in
theorem dX5_part_37 : decode cX5_part 37 = .ok (.lload 5, 2) := by decide +kernel
set_option maxRecDepth 20000 in
theorem dX5_part_39 : decode cX5_part 39 = .ok (.lload_n 1, 1) := by decide +kernel
set_option maxRecDepth 20000 in
theorem dX5_part_40 : decode cX5_part 40 = .ok (.iload 7, 2) := by decide +kernel
set_option maxRecDepth 20000 in
theorem dX5_part_42 : decode cX5_part 42 = .ok (.lshr, 1) := by decide +kernel
set_option maxRecDepth 20000 in
theorem dX5_part_43 : decode cX5_part 43 = .ok (.lconst 1, 1) := by decide +kernel
set_option maxRecDepth 20000 in
theorem dX5_part_44 : decode cX5_part 44 = .ok (.land, 1) := by decide +kernel
set_option maxRecDepth 20000 in
theorem dX5_part_45 : decode cX5_part 45 = .ok (.lconst 1, 1) := by decide +kernel
set_option maxRecDepth 20000 in
theorem dX5_part_46 : decode cX5_part 46 = .ok (.lcmp, 1) := by decide +kernel
set_option maxRecDepth 20000 in
theorem dX5_part_47 : decode cX5_part 47 = .ok (.ifCond .ne 35, 3) := by decide +kernel
set_option maxRecDepth 20000 in
theorem dX5_part_50 : decode cX5_part 50 = .ok (.aload_n 0, 1) := by decide +kernel
set_option maxRecDepth 20000 in
theorem dX5_part_51 : decode cX5_part 51 = .ok (.iload_n 3, 1) := by decide +kernel
set_option maxRecDepth 20000 in
theorem dX5_part_52 : decode cX5_part 52 = .ok (.iload 7, 2) := by decide +kernel
set_option maxRecDepth 20000 in
theorem dX5_part_54 : decode cX5_part 54 = .ok (.aload_n 0, 1) := by decide +kernel
set_option maxRecDepth 20000 in
theorem dX5_part_55 : decode cX5_part 55 = .ok (.getfield 38, 3) := by decide +kernel
set_option maxRecDepth 20000 in
theorem dX5_part_58 : decode cX5_part 58 = .ok (.iload_n 3, 1) := by decide +kernel
set_option maxRecDepth 20000 in
theorem dX5_part_59 : decode cX5_part 59 = .ok (.iaload, 1) := by decide +kernel
set_option maxRecDepth 20000 in
theorem dX5_part_60 : decode cX5_part 60 = .ok (.aload_n 0, 1) := by decide +kernel
set_option maxRecDepth 20000 in
theorem dX5_part_61 : decode cX5_part 61 = .ok (.getfield 38, 3) := by decide +kernel
set_option maxRecDepth 20000 in
theorem dX5_part_64 : decode cX5_part 64 = .ok (.bipush 6, 2) := by decide +kernel
set_option maxRecDepth 20000 in
theorem dX5_part_66 : decode cX5_part 66 = .ok (.iaload, 1) := by decide +kernel
set_option maxRecDepth 20000 in
theorem dX5_part_67 : decode cX5_part 67 = .ok (.invokevirtual 112, 3) := by decide +kernel
set_option maxRecDepth 20000 in
theorem dX5_part_70 : decode cX5_part 70 = .ok (.iload 4, 2) := by decide +kernel
set_option maxRecDepth 20000 in
theorem dX5_part_72 : decode cX5_part 72 = .ok (.if_icmp .ne 10, 3) := by decide +kernel
set_option maxRecDepth 20000 in
theorem dX5_part_75 : decode cX5_part 75 = .ok (.lconst 1, 1) := by decide +kernel
set_option maxRecDepth 20000 in
theorem dX5_part_76 : decode cX5_part 76 = .ok (.iload 7, 2) := by decide +kernel
set_option maxRecDepth 20000 in
theorem dX5_part_78 : decode cX5_part 78 = .ok (.lshl, 1) := by decide +kernel
set_option maxRecDepth 20000 in
theorem dX5_part_79 : decode cX5_part 79 = .ok (.goto 4, 3) := by decide +kernel
set_option maxRecDepth 20000 in
theorem dX5_part_82 : decode cX5_part 82 = .ok (.lconst 0, 1) := by decide +kernel
set_option maxRecDepth 20000 in
theorem dX5_part_83 : decode cX5_part 83 = .ok (.lor, 1) := by decide +kernel
set_option maxRecDepth 20000 in
theorem dX5_part_84 : decode cX5_part 84 = .ok (.lstore 5, 2) := by decide +kernel
set_option maxRecDepth 20000 in
theorem dX5_part_86 : decode cX5_part 86 = .ok (.iinc 7 1, 3) := by decide +kernel
set_option maxRecDepth 20000 in
theorem dX5_part_89 : decode cX5_part 89 = .ok (.goto (-59), 3) := by decide +kernel
set_option maxRecDepth 20000 in
theorem dX5_part_92 : decode cX5_part 92 = .ok (.lload 5, 2) := by decide +kernel
set_option maxRecDepth 20000 in
theorem dX5_part_94 : decode cX5_part 94 = .ok (.lreturn, 1) := by decide +kernel
set_option maxRecDepth 20000 in
theorem dX5_worst_0 : decode cX5_worst 0 = .ok (.lload_n 1, 1) := by decide +kernel
set_option maxRecDepth 20000 in
theorem dX5_worst_1 : decode cX5_worst 1 = .ok (.lstore 4, 2) := by decide +kernel
set_option maxRecDepth 20000 in
theorem dX5_worst_3 : decode cX5_worst 3 = .ok (.iconst 0, 1) := by decide +kernel
set_option maxRecDepth 20000 in
theorem dX5_worst_4 : decode cX5_worst 4 = .ok (.istore 6, 2) := by decide +kernel
set_option maxRecDepth 20000 in
theorem dX5_worst_6 : decode cX5_worst 6 = .ok (.lload 4, 2) := by decide +kernel
set_option maxRecDepth 20000 in
theorem dX5_worst_8 : decode cX5_worst 8 = .ok (.lconst 0, 1) := by decide +kernel
set_option maxRecDepth 20000 in
theorem dX5_worst_9 : decode cX5_worst 9 = .ok (.lcmp, 1) := by decide +kernel
set_option maxRecDepth 20000 in
theorem dX5_worst_10 : decode cX5_worst 10 = .ok (.ifCond .eq 48, 3) := by decide +kernel
set_option maxRecDepth 20000 in
theorem dX5_worst_13 : decode cX5_worst 13 = .ok (.aload_n 0, 1) := by decide +kernel
set_option maxRecDepth 20000 in
theorem dX5_worst_14 : decode cX5_worst 14 = .ok (.lload 4, 2) := by decide +kernel
set_option maxRecDepth 20000 in
theorem dX5_worst_16 : decode cX5_worst 16 = .ok (.iload_n 3, 1) := by decide +kernel
set_option maxRecDepth 20000 in
theorem dX5_worst_17 : decode cX5_worst 17 = .ok (.invokevirtual 134, 3) := by decide +kernel
set_option maxRecDepth 20000 in
theorem dX5_worst_20 : decode cX5_worst 20 = .ok (.lstore 7, 2) := by decide +kernel
set_option maxRecDepth 20000 in
theorem dX5_worst_22 : decode cX5_worst 22 = .ok (.lload 7, 2) := by decide +kernel
set_option maxRecDepth 20000 in
theorem dX5_worst_24 : decode cX5_worst 24 = .ok (.invokestatic 124, 3) := by decide +kernel
set_option maxRecDepth 20000 in
theorem dX5_worst_27 : decode cX5_worst 27 = .ok (.iload 6, 2) := by decide +kernel
set_option maxRecDepth 20000 in
theorem dX5_worst_29 : decode cX5_worst 29 = .ok (.if_icmp .le 11, 3) := by decide +kernel
set_option maxRecDepth 20000 in
theorem dX5_worst_32 : decode cX5_worst 32 = .ok (.lload 7, 2) := by decide +kernel
set_option maxRecDepth 20000 in
theorem dX5_worst_34 : decode cX5_worst 34 = .ok (.invokestatic 124, 3) := by decide +kernel
set_option maxRecDepth 20000 in
theorem dX5_worst_37 : decode cX5_worst 37 = .ok (.goto 5, 3) := by decide +kernel
set_option maxRecDepth 20000 in
theorem dX5_worst_40 : decode cX5_worst 40 = .ok (.iload 6, 2) := by decide +kernel
set_option maxRecDepth 20000 in
theorem dX5_worst_42 : decode cX5_worst 42 = .ok (.istore 6, 2) := by decide +kernel
set_option maxRecDepth 20000 in
theorem dX5_worst_44 : decode cX5_worst 44 = .ok (.lload 4, 2) := by decide +kernel
set_option maxRecDepth 20000 in
theorem dX5_worst_46 : decode cX5_worst 46 = .ok (.lload 7, 2) := by decide +kernel
set_option maxRecDepth 20000 in
theorem dX5_worst_48 : decode cX5_worst 48 = .ok (.ldc2_w 138, 3) := by decide +kernel
set_option maxRecDepth 20000 in
theorem dX5_worst_51 : decode cX5_worst 51 = .ok (.lxor, 1) := by decide +kernel
set_option maxRecDepth 20000 in
theorem dX5_worst_52 : decode cX5_worst 52 = .ok (.land, 1) := by decide +kernel
set_option maxRecDepth 20000 in
theorem dX5_worst_53 : decode cX5_worst 53 = .ok (.lstore 4, 2) := by decide +kernel
set_option maxRecDepth 20000 in
theorem dX5_worst_55 : decode cX5_worst 55 = .ok (.goto (-49), 3) := by decide +kernel
set_option maxRecDepth 20000 in
theorem dX5_worst_58 : decode cX5_worst 58 = .ok (.iload 6, 2) := by decide +kernel
set_option maxRecDepth 20000 in
theorem dX5_worst_60 : decode cX5_worst 60 = .ok (.ireturn, 1) := by decide +kernel
set_option maxRecDepth 20000 in
theorem dX5_next_0 : decode cX5_next 0 = .ok (.aload_n 0, 1) := by decide +kernel
set_option maxRecDepth 20000 in
theorem dX5_next_1 : decode cX5_next 1 = .ok (.iload_n 1, 1) := by decide +kernel
set_option maxRecDepth 20000 in
theorem dX5_next_2 : decode cX5_next 2 = .ok (.invokevirtual 105, 3) := by decide +kernel
set_option maxRecDepth 20000 in
theorem dX5_next_5 : decode cX5_next 5 = .ok (.ifCond .eq 12, 3) := by decide +kernel
set_option maxRecDepth 20000 in
theorem dX5_next_8 : decode cX5_next 8 = .ok (.iload_n 2, 1) := by decide +kernel
set_option maxRecDepth 20000 in
theorem dX5_next_9 : decode cX5_next 9 = .ok (.iconst 0, 1) := by decide +kernel
set_option maxRecDepth 20000 in
theorem dX5_next_10 : decode cX5_next 10 = .ok (.iconst 1, 1) := by decide +kernel
set_option maxRecDepth 20000 in
theorem dX5_next_11 : decode cX5_next 11 = .ok (.invokestatic 52, 3) := by decide +kernel
set_option maxRecDepth 20000 in
theorem dX5_next_14 : decode cX5_next 14 = .ok (.ifCond .ne 5, 3) := by decide +kernel
set_option maxRecDepth 20000 in
theorem dX5_next_17 : decode cX5_next 17 = .ok (.iconst (-1), 1) := by decide +kernel
set_option maxRecDepth 20000 in
theorem dX5_next_18 : decode cX5_next 18 = .ok (.ireturn, 1) := by decide +kernel
set_option maxRecDepth 20000 in
theorem dX5_next_19 : decode cX5_next 19 = .ok (.aload_n 0, 1) := by decide +kernel
set_option maxRecDepth 20000 in
theorem dX5_next_20 : decode cX5_next 20 = .ok (.iload_n 1, 1) := by decide +kernel
set_option maxRecDepth 20000 in
theorem dX5_next_21 : decode cX5_next 21 = .ok (.invokevirtual 120, 3) := by decide +kernel
set_option maxRecDepth 20000 in
theorem dX5_next_24 : decode cX5_next 24 = .ok (.lstore_n 3, 1) := by decide +kernel
set_option maxRecDepth 20000 in
theorem dX5_next_25 : decode cX5_next 25 = .ok (.bipush (-9), 2) := by decide +kernel
set_option maxRecDepth 20000 in
theorem dX5_next_27 : decode cX5_next 27 = .ok (.istore 5, 2) := by decide +kernel
set_option maxRecDepth 20000 in
theorem dX5_next_29 : decode cX5_next 29 = .ok (.bipush (-9), 2) := by decide +kernel
set_option maxRecDepth 20000 in
theorem dX5_next_31 : decode cX5_next 31 = .ok (.istore 6, 2) := by decide +kernel
set_option maxRecDepth 20000 in
theorem dX5_next_33 : decode cX5_next 33 = .ok (.iconst 0, 1) := by decide +kernel
set_option maxRecDepth 20000 in
theorem dX5_next_34 : decode cX5_next 34 = .ok (.istore 7, 2) := by decide +kernel
set_option maxRecDepth 20000 in
theorem dX5_next_36 : decode cX5_next 36 = .ok (.iload 7, 2) := by decide +kernel
set_option maxRecDepth 20000 in
theorem dX5_next_38 : decode cX5_next 38 = .ok (.aload_n 0, 1) := by decide +kernel
set_option maxRecDepth 20000 in
theorem dX5_next_39 : decode cX5_next 39 = .ok (.getfield 20, 3) := by decide +kernel
set_option maxRecDepth 20000 in
theorem dX5_next_42 : decode cX5_next 42 = .ok (.iconst 0, 1) := by decide +kernel
set_option maxRecDepth 20000 in
theorem dX5_next_43 : decode cX5_next 43 = .ok (.iaload, 1) := by decide +kernel
set_option maxRecDepth 20000 in
theorem dX5_next_44 : decode cX5_next 44 = .ok (.if_icmp .ge 40, 3) := by decide +kernel
set_option maxRecDepth 20000 in
theorem dX5_next_47 : decode cX5_next 47 = .ok (.aload_n 0, 1) := by decide +kernel
set_option maxRecDepth 20000 in
theorem dX5_next_48 : decode cX5_next 48 = .ok (.lload_n 3, 1) := by decide +kernel
set_option maxRecDepth 20000 in
theorem dX5_next_49 : decode cX5_next 49 = .ok (.iload 7, 2) := by decide +kernel
set_option maxRecDepth 20000 in
theorem dX5_next_51 : decode cX5_next 51 = .ok (.invokevirtual 140, 3) := by decide +kernel
set_option maxRecDepth 20000 in
theorem dX5_next_54 : decode cX5_next 54 = .ok (.istore 8, 2) := by decide +kernel
set_option maxRecDepth 20000 in
theorem dX5_next_56 : decode cX5_next 56 = .ok (.iload 5, 2) := by decide +kernel
set_option maxRecDepth 20000 in
theorem dX5_next_58 : decode cX5_next 58 = .ok (.bipush (-9), 2) := by decide +kernel
set_option maxRecDepth 20000 in
theorem dX5_next_60 : decode cX5_next 60 = .ok (.if_icmp .eq 10, 3) := by decide +kernel
set_option maxRecDepth 20000 in
theorem dX5_next_63 : decode cX5_next 63 = .ok (.iload 8, 2) := by decide +kernel
set_option maxRecDepth 20000 in
theorem dX5_next_65 : decode cX5_next 65 = .ok (.iload 6, 2) := by decide +kernel
set_option maxRecDepth 20000 in
theorem dX5_next_67 : decode cX5_next 67 = .ok (.if_icmp .ge 11, 3) := by decide +kernel
set_option maxRecDepth 20000 in
theorem dX5_next_70 : decode cX5_next 70 = .ok (.iload 7, 2) := by decide +kernel
set_option maxRecDepth 20000 in
theorem dX5_next_72 : decode cX5_next 72 = .ok (.istore 5, 2) := by decide +kernel
set_option maxRecDepth 20000 in
theorem dX5_next_74 : decode cX5_next 74 = .ok (.iload 8, 2) := by decide +kernel
set_option maxRecDepth 20000 in
theorem dX5_next_76 : decode cX5_next 76 = .ok (.istore 6, 2) := by decide +kernel
set_option maxRecDepth 20000 in
theorem dX5_next_78 : decode cX5_next 78 = .ok (.iinc 7 1, 3) := by decide +kernel
set_option maxRecDepth 20000 in
theorem dX5_next_81 : decode cX5_next 81 = .ok (.goto (-45), 3) := by decide +kernel
set_option maxRecDepth 20000 in
theorem dX5_next_84 : decode cX5_next 84 = .ok (.iload_n 2, 1) := by decide +kernel
set_option maxRecDepth 20000 in
theorem dX5_next_85 : decode cX5_next 85 = .ok (.ifCond .ne 8, 3) := by decide +kernel
set_option maxRecDepth 20000 in
theorem dX5_next_88 : decode cX5_next 88 = .ok (.iload 5, 2) := by decide +kernel
set_option maxRecDepth 20000 in
theorem dX5_next_90 : decode cX5_next 90 = .ok (.goto 5, 3) := by decide +kernel
set_option maxRecDepth 20000 in
theorem dX5_next_93 : decode cX5_next 93 = .ok (.iload 6, 2) := by decide +kernel
set_option maxRecDepth 20000 in
theorem dX5_next_95 : decode cX5_next 95 = .ok (.ireturn, 1) := by decide +kernel
set_option maxRecDepth 20000 in
theorem dX5_isEnoughByOne_0 : decode cX5_isEnoughByOne 0 = .ok (.lload_n 1, 1) := by decide +kernel
set_option maxRecDepth 20000 in
theorem dX5_isEnoughByOne_1 : decode cX5_isEnoughByOne 1 = .ok (.invokestatic 124, 3) := by decide +kernel
set_option maxRecDepth 20000 in
theorem dX5_isEnoughByOne_4 : decode cX5_isEnoughByOne 4 = .ok (.iload_n 3, 1) := by decide +kernel
set_option maxRecDepth 20000 in
theorem dX5_isEnoughByOne_5 : decode cX5_isEnoughByOne 5 = .ok (.if_icmp .gt 7, 3) := by decide +kernel
set_option maxRecDepth 20000 in
theorem dX5_isEnoughByOne_8 : decode cX5_isEnoughByOne 8 = .ok (.iconst 1, 1) := by decide +kernel
set_option maxRecDepth 20000 in
theorem dX5_isEnoughByOne_9 : decode cX5_isEnoughByOne 9 = .ok (.goto 4, 3) := by decide +kernel
set_option maxRecDepth 20000 in
theorem dX5_isEnoughByOne_12 : decode cX5_isEnoughByOne 12 = .ok (.iconst 0, 1) := by decide +kernel
set_option maxRecDepth 20000 in
theorem dX5_isEnoughByOne_13 : decode cX5_isEnoughByOne 13 = .ok (.istore 4, 2) := by decide +kernel
set_option maxRecDepth 20000 in
theorem dX5_isEnoughByOne_15 : decode cX5_isEnoughByOne 15 = .ok (.iconst 0, 1) := by decide +kernel
set_option maxRecDepth 20000 in
theorem dX5_isEnoughByOne_16 : decode cX5_isEnoughByOne 16 = .ok (.istore 5, 2) := by decide +kernel
set_option maxRecDepth 20000 in
theorem dX5_isEnoughByOne_18 : decode cX5_isEnoughByOne 18 = .ok (.iload 5, 2) := by decide +kernel
set_option maxRecDepth 20000 in
theorem dX5_isEnoughByOne_20 : decode cX5_isEnoughByOne 20 = .ok (.aload_n 0, 1) := by decide +kernel
set_option maxRecDepth 20000 in
theorem dX5_isEnoughByOne_21 : decode cX5_isEnoughByOne 21 = .ok (.getfield 20, 3) := by decide +kernel
set_option maxRecDepth 20000 in
theorem dX5_isEnoughByOne_24 : decode cX5_isEnoughByOne 24 = .ok (.iconst 0, 1) := by decide +kernel
set_option maxRecDepth 20000 in
theorem dX5_isEnoughByOne_25 : decode cX5_isEnoughByOne 25 = .ok (.iaload, 1) := by decide +kernel
set_option maxRecDepth 20000 in
theorem dX5_isEnoughByOne_26 : decode cX5_isEnoughByOne 26 = .ok (.if_icmp .ge 32, 3) := by decide +kernel
set_option maxRecDepth 20000 in
theorem dX5_isEnoughByOne_29 : decode cX5_isEnoughByOne 29 = .ok (.iload 4, 2) := by decide +kernel
set_option maxRecDepth 20000 in
theorem dX5_isEnoughByOne_31 : decode cX5_isEnoughByOne 31 = .ok (.ifCond .ne 27, 3) := by decide +kernel
set_option maxRecDepth 20000 in
theorem dX5_isEnoughByOne_34 : decode cX5_isEnoughByOne 34 = .ok (.aload_n 0, 1) := by decide +kernel
set_option maxRecDepth 20000 in
theorem dX5_isEnoughByOne_35 : decode cX5_isEnoughByOne 35 = .ok (.lload_n 1, 1) := by decide +kernel
set_option maxRecDepth 20000 in
theorem dX5_isEnoughByOne_36 : decode cX5_isEnoughByOne 36 = .ok (.iload 5, 2) := by decide +kernel
set_option maxRecDepth 20000 in
theorem dX5_isEnoughByOne_38 : decode cX5_isEnoughByOne 38 = .ok (.invokevirtual 140, 3) := by decide +kernel
set_option maxRecDepth 20000 in
theorem dX5_isEnoughByOne_41 : decode cX5_isEnoughByOne 41 = .ok (.iload_n 3, 1) := by decide +kernel
set_option maxRecDepth 20000 in
theorem dX5_isEnoughByOne_42 : decode cX5_isEnoughByOne 42 = .ok (.if_icmp .gt 7, 3) := by decide +kernel
set_option maxRecDepth 20000 in
theorem dX5_isEnoughByOne_45 : decode cX5_isEnoughByOne 45 = .ok (.iconst 1, 1) := by decide +kernel
set_option maxRecDepth 20000 in
theorem dX5_isEnoughByOne_46 : decode cX5_isEnoughByOne 46 = .ok (.goto 4, 3) := by decide +kernel
set_option maxRecDepth 20000 in
theorem dX5_isEnoughByOne_49 : decode cX5_isEnoughByOne 49 = .ok (.iconst 0, 1) := by decide +kernel
set_option maxRecDepth 20000 in
theorem dX5_isEnoughByOne_50 : decode cX5_isEnoughByOne 50 = .ok (.istore 4, 2) := by decide +kernel
set_option maxRecDepth 20000 in
theorem dX5_isEnoughByOne_52 : decode cX5_isEnoughByOne 52 = .ok (.iinc 5 1, 3) := by decide +kernel
set_option maxRecDepth 20000 in
theorem dX5_isEnoughByOne_55 : decode cX5_isEnoughByOne 55 = .ok (.goto (-37), 3) := by decide +kernel
set_option maxRecDepth 20000 in
theorem dX5_isEnoughByOne_58 : decode cX5_isEnoughByOne 58 = .ok (.iload 4, 2) := by decide +kernel
set_option maxRecDepth 20000 in
theorem dX5_isEnoughByOne_60 : decode cX5_isEnoughByOne 60 = .ok (.ireturn, 1) := by decide +kernel
set_option maxRecDepth 20000 in
theorem dX5_isEnoughByTwo_0 : decode cX5_isEnoughByTwo 0 = .ok (.aload_n 0, 1) := by decide +kernel
set_option maxRecDepth 20000 in
theorem dX5_isEnoughByTwo_1 : decode cX5_isEnoughByTwo 1 = .ok (.lload_n 1, 1) := by decide +kernel
set_option maxRecDepth 20000 in
theorem dX5_isEnoughByTwo_2 : decode cX5_isEnoughByTwo 2 = .ok (.iload_n 3, 1) := by decide +kernel
set_option maxRecDepth 20000 in
theorem dX5_isEnoughByTwo_3 : decode cX5_isEnoughByTwo 3 = .ok (.invokevirtual 144, 3) := by decide +kernel
set_option maxRecDepth 20000 in
theorem dX5_isEnoughByTwo_6 : decode cX5_isEnoughByTwo 6 = .ok (.istore 4, 2) := by decide +kernel
set_option maxRecDepth 20000 in
theorem dX5_isEnoughByTwo_8 : decode cX5_isEnoughByTwo 8 = .ok (.iconst 0, 1) := by decide +kernel
set_option maxRecDepth 20000 in
theorem dX5_isEnoughByTwo_9 : decode cX5_isEnoughByTwo 9 = .ok (.istore 5, 2) := by decide +kernel
set_option maxRecDepth 20000 in
theorem dX5_isEnoughByTwo_11 : decode cX5_isEnoughByTwo 11 = .ok (.iload 5, 2) := by decide +kernel
set_option maxRecDepth 20000 in
theorem dX5_isEnoughByTwo_13 : decode cX5_isEnoughByTwo 13 = .ok (.aload_n 0, 1) := by decide +kernel
set_option maxRecDepth 20000 in
theorem dX5_isEnoughByTwo_14 : decode cX5_isEnoughByTwo 14 = .ok (.getfield 20, 3) := by decide +kernel
set_option maxRecDepth 20000 in
theorem dX5_isEnoughByTwo_17 : decode cX5_isEnoughByTwo 17 = .ok (.iconst 0, 1) := by decide +kernel
set_option maxRecDepth 20000 in
theorem dX5_isEnoughByTwo_18 : decode cX5_isEnoughByTwo 18 = .ok (.iaload, 1) := by decide +kernel
set_option maxRecDepth 20000 in
theorem dX5_isEnoughByTwo_19 : decode cX5_isEnoughByTwo 19 = .ok (.if_icmp .ge 87, 3) := by decide +kernel
set_option maxRecDepth 20000 in
theorem dX5_isEnoughByTwo_22 : decode cX5_isEnoughByTwo 22 = .ok (.iload 4, 2) := by decide +kernel
set_option maxRecDepth 20000 in
theorem dX5_isEnoughByTwo_24 : decode cX5_isEnoughByTwo 24 = .ok (.ifCond .ne 82, 3) := by decide +kernel
set_option maxRecDepth 20000 in
theorem dX5_isEnoughByTwo_27 : decode cX5_isEnoughByTwo 27 = .ok (.lload_n 1, 1) := by decide +kernel
set_option maxRecDepth 20000 in
theorem dX5_isEnoughByTwo_28 : decode cX5_isEnoughByTwo 28 = .ok (.lstore 6, 2) := by decide +kernel
set_option maxRecDepth 20000 in
theorem dX5_isEnoughByTwo_30 : decode cX5_isEnoughByTwo 30 = .ok (.iconst 1, 1) := by decide +kernel
set_option maxRecDepth 20000 in
theorem dX5_isEnoughByTwo_31 : decode cX5_isEnoughByTwo 31 = .ok (.istore 4, 2) := by decide +kernel
set_option maxRecDepth 20000 in
theorem dX5_isEnoughByTwo_33 : decode cX5_isEnoughByTwo 33 = .ok (.lload 6, 2) := by decide +kernel
set_option maxRecDepth 20000 in
theorem dX5_isEnoughByTwo_35 : decode cX5_isEnoughByTwo 35 = .ok (.lconst 0, 1) := by decide +kernel
set_option maxRecDepth 20000 in
theorem dX5_isEnoughByTwo_36 : decode cX5_isEnoughByTwo 36 = .ok (.lcmp, 1) := by decide +kernel
set_option maxRecDepth 20000 in
theorem dX5_isEnoughByTwo_37 : decode cX5_isEnoughByTwo 37 = .ok (.ifCond .eq 63, 3) := by decide +kernel
set_option maxRecDepth 20000 in
theorem dX5_isEnoughByTwo_40 : decode cX5_isEnoughByTwo 40 = .ok (.iload 4, 2) := by decide +kernel
set_option maxRecDepth 20000 in
theorem dX5_isEnoughByTwo_42 : decode cX5_isEnoughByTwo 42 = .ok (.ifCond .eq 58, 3) := by decide +kernel
set_option maxRecDepth 20000 in
theorem dX5_isEnoughByTwo_45 : decode cX5_isEnoughByTwo 45 = .ok (.aload_n 0, 1) := by decide +kernel
set_option maxRecDepth 20000 in
theorem dX5_isEnoughByTwo_46 : decode cX5_isEnoughByTwo 46 = .ok (.lload 6, 2) := by decide +kernel
set_option maxRecDepth 20000 in
theorem dX5_isEnoughByTwo_48 : decode cX5_isEnoughByTwo 48 = .ok (.iload 5, 2) := by decide +kernel
set_option maxRecDepth 20000 in
theorem dX5_isEnoughByTwo_50 : decode cX5_isEnoughByTwo 50 = .ok (.invokevirtual 134, 3) := by decide +kernel
set_option maxRecDepth 20000 in
theorem dX5_isEnoughByTwo_53 : decode cX5_isEnoughByTwo 53 = .ok (.lstore 8, 2) := by decide +kernel
set_option maxRecDepth 20000 in
theorem dX5_isEnoughByTwo_55 : decode cX5_isEnoughByTwo 55 = .ok (.lload 6, 2) := by decide +kernel
set_option maxRecDepth 20000 in
theorem dX5_isEnoughByTwo_57 : decode cX5_isEnoughByTwo 57 = .ok (.lload 8, 2) := by decide +kernel
set_option maxRecDepth 20000 in
theorem dX5_isEnoughByTwo_59 : decode cX5_isEnoughByTwo 59 = .ok (.ldc2_w 138, 3) := by decide +kernel
set_option maxRecDepth 20000 in
theorem dX5_isEnoughByTwo_62 : decode cX5_isEnoughByTwo 62 = .ok (.lxor, 1) := by decide +kernel
set_option maxRecDepth 20000 in
theorem dX5_isEnoughByTwo_63 : decode cX5_isEnoughByTwo 63 = .ok (.land, 1) := by decide +kernel
set_option maxRecDepth 20000 in
theorem dX5_isEnoughByTwo_64 : decode cX5_isEnoughByTwo 64 = .ok (.lstore 6, 2) := by decide +kernel
set_option maxRecDepth 20000 in
theorem dX5_isEnoughByTwo_66 : decode cX5_isEnoughByTwo 66 = .ok (.aload_n 0, 1) := by decide +kernel
set_option maxRecDepth 20000 in
theorem dX5_isEnoughByTwo_67 : decode cX5_isEnoughByTwo 67 = .ok (.getfield 38, 3) := by decide +kernel
set_option maxRecDepth 20000 in
theorem dX5_isEnoughByTwo_70 : decode cX5_isEnoughByTwo 70 = .ok (.iload 5, 2) := by decide +kernel
set_option maxRecDepth 20000 in
theorem dX5_isEnoughByTwo_72 : decode cX5_isEnoughByTwo 72 = .ok (.dup2, 1) := by decide +kernel
set_option maxRecDepth 20000 in
theorem dX5_isEnoughByTwo_73 : decode cX5_isEnoughByTwo 73 = .ok (.iaload, 1) := by decide +kernel
set_option maxRecDepth 20000 in
theorem dX5_isEnoughByTwo_74 : decode cX5_isEnoughByTwo 74 = .ok (.iconst 1, 1) := by decide +kernel
set_option maxRecDepth 20000 in
theorem dX5_isEnoughByTwo_75 : decode cX5_isEnoughByTwo 75 = .ok (.iadd, 1) := by decide +kernel
set_option maxRecDepth 20000 in
theorem dX5_isEnoughByTwo_76 : decode cX5_isEnoughByTwo 76 = .ok (.iastore, 1) := by decide +kernel
set_option maxRecDepth 20000 in
theorem dX5_isEnoughByTwo_77 : decode cX5_isEnoughByTwo 77 = .ok (.aload_n 0, 1) := by decide +kernel
set_option maxRecDepth 20000 in
theorem dX5_isEnoughByTwo_78 : decode cX5_isEnoughByTwo 78 = .ok (.lload 8, 2) := by decide +kernel
set_option maxRecDepth 20000 in
theorem dX5_isEnoughByTwo_80 : decode cX5_isEnoughByTwo 80 = .ok (.iload_n 3, 1) := by decide +kernel
set_option maxRecDepth 20000 in
theorem dX5_isEnoughByTwo_81 : decode cX5_isEnoughByTwo 81 = .ok (.invokevirtual 144, 3) := by decide +kernel
set_option maxRecDepth 20000 in
theorem dX5_isEnoughByTwo_84 : decode cX5_isEnoughByTwo 84 = .ok (.istore 4, 2) := by decide +kernel
set_option maxRecDepth 20000 in
theorem dX5_isEnoughByTwo_86 : decode cX5_isEnoughByTwo 86 = .ok (.aload_n 0, 1) := by decide +kernel
set_option maxRecDepth 20000 in
theorem dX5_isEnoughByTwo_87 : decode cX5_isEnoughByTwo 87 = .ok (.getfield 38, 3) := by decide +kernel
set_option maxRecDepth 20000 in
theorem dX5_isEnoughByTwo_90 : decode cX5_isEnoughByTwo 90 = .ok (.iload 5, 2) := by decide +kernel
set_option maxRecDepth 20000 in
theorem dX5_isEnoughByTwo_92 : decode cX5_isEnoughByTwo 92 = .ok (.dup2, 1) := by decide +kernel
set_option maxRecDepth 20000 in
theorem dX5_isEnoughByTwo_93 : decode cX5_isEnoughByTwo 93 = .ok (.iaload, 1) := by decide +kernel
set_option maxRecDepth 20000 in
theorem dX5_isEnoughByTwo_94 : decode cX5_isEnoughByTwo 94 = .ok (.iconst 1, 1) := by decide +kernel
set_option maxRecDepth 20000 in
theorem dX5_isEnoughByTwo_95 : decode cX5_isEnoughByTwo 95 = .ok (.isub, 1) := by decide +kernel
set_option maxRecDepth 20000 in
theorem dX5_isEnoughByTwo_96 : decode cX5_isEnoughByTwo 96 = .ok (.iastore, 1) := by decide +kernel
set_option maxRecDepth 20000 in
theorem dX5_isEnoughByTwo_97 : decode cX5_isEnoughByTwo 97 = .ok (.goto (-64), 3) := by decide +kernel
set_option maxRecDepth 20000 in
theorem dX5_isEnoughByTwo_100 : decode cX5_isEnoughByTwo 100 = .ok (.iinc 5 1, 3) := by decide +kernel
set_option maxRecDepth 20000 in
theorem dX5_isEnoughByTwo_103 : decode cX5_isEnoughByTwo 103 = .ok (.goto (-92), 3) := by decide +kernel
set_option maxRecDepth 20000 in
theorem dX5_isEnoughByTwo_106 : decode cX5_isEnoughByTwo 106 = .ok (.iload 4, 2) := by decide +kernel
set_option maxRecDepth 20000 in
theorem dX5_isEnoughByTwo_108 : decode cX5_isEnoughByTwo 108 = .ok (.ireturn, 1) := by decide +kernel
set_option maxRecDepth 20000 in
theorem dX5_isEnoughByThree_0 : decode cX5_isEnoughByThree 0 = .ok (.aload_n 0, 1) := by decide +kernel
set_option maxRecDepth 20000 in
theorem dX5_isEnoughByThree_1 : decode cX5_isEnoughByThree 1 = .ok (.lload_n 1, 1) := by decide +kernel
set_option maxRecDepth 20000 in
theorem dX5_isEnoughByThree_2 : decode cX5_isEnoughByThree 2 = .ok (.iload_n 3, 1) := by decide +kernel
set_option maxRecDepth 20000 in
theorem dX5_isEnoughByThree_3 : decode cX5_isEnoughByThree 3 = .ok (.invokevirtual 148, 3) := by decide +kernel
set_option maxRecDepth 20000 in
theorem dX5_isEnoughByThree_6 : decode cX5_isEnoughByThree 6 = .ok (.istore 4, 2) := by decide +kernel
set_option maxRecDepth 20000 in
theorem dX5_isEnoughByThree_8 : decode cX5_isEnoughByThree 8 = .ok (.iconst 0, 1) := by decide +kernel
set_option maxRecDepth 20000 in
theorem dX5_isEnoughByThree_9 : decode cX5_isEnoughByThree 9 = .ok (.istore 5, 2) := by decide +kernel
set_option maxRecDepth 20000 in
theorem dX5_isEnoughByThree_11 : decode cX5_isEnoughByThree 11 = .ok (.iload 5, 2) := by decide +kernel
set_option maxRecDepth 20000 in
theorem dX5_isEnoughByThree_13 : decode cX5_isEnoughByThree 13 = .ok (.aload_n 0, 1) := by decide +kernel
set_option maxRecDepth 20000 in
theorem dX5_isEnoughByThree_14 : decode cX5_isEnoughByThree 14 = .ok (.getfield 20, 3) := by decide +kernel
set_option maxRecDepth 20000 in
theorem dX5_isEnoughByThree_17 : decode cX5_isEnoughByThree 17 = .ok (.iconst 0, 1) := by decide +kernel
set_option maxRecDepth 20000 in
theorem dX5_isEnoughByThree_18 : decode cX5_isEnoughByThree 18 = .ok (.iaload, 1) := by decide +kernel
set_option maxRecDepth 20000 in
theorem dX5_isEnoughByThree_19 : decode cX5_isEnoughByThree 19 = .ok (.if_icmp .ge 87, 3) := by decide +kernel
set_option maxRecDepth 20000 in
theorem dX5_isEnoughByThree_22 : decode cX5_isEnoughByThree 22 = .ok (.iload 4, 2) := by decide +kernel
set_option maxRecDepth 20000 in
theorem dX5_isEnoughByThree_24 : decode cX5_isEnoughByThree 24 = .ok (.ifCond .ne 82, 3) := by decide +kernel
set_option maxRecDepth 20000 in
theorem dX5_isEnoughByThree_27 : decode cX5_isEnoughByThree 27 = .ok (.lload_n 1, 1) := by decide +kernel
set_option maxRecDepth 20000 in
theorem dX5_isEnoughByThree_28 : decode cX5_isEnoughByThree 28 = .ok (.lstore 6, 2) := by decide +kernel
set_option maxRecDepth 20000 in
theorem dX5_isEnoughByThree_30 : decode cX5_isEnoughByThree 30 = .ok (.iconst 1, 1) := by decide +kernel
set_option maxRecDepth 20000 in
theorem dX5_isEnoughByThree_31 : decode cX5_isEnoughByThree 31 = .ok (.istore 4, 2) := by decide +kernel
set_option maxRecDepth 20000 in
theorem dX5_isEnoughByThree_33 : decode cX5_isEnoughByThree 33 = .ok (.lload 6, 2) := by decide +kernel
set_option maxRecDepth 20000 in
theorem dX5_isEnoughByThree_35 : decode cX5_isEnoughByThree 35 = .ok (.lconst 0, 1) := by decide +kernel
set_option maxRecDepth 20000 in
theorem dX5_isEnoughByThree_36 : decode cX5_isEnoughByThree 36 = .ok (.lcmp, 1) := by decide +kernel
set_option maxRecDepth 20000 in
theorem dX5_isEnoughByThree_37 : decode cX5_isEnoughByThree 37 = .ok (.ifCond .eq 63, 3) := by decide +kernel
set_option maxRecDepth 20000 in
theorem dX5_isEnoughByThree_40 : decode cX5_isEnoughByThree 40 = .ok (.iload 4, 2) := by decide +kernel
set_option maxRecDepth 20000 in
theorem dX5_isEnoughByThree_42 : decode cX5_isEnoughByThree 42 = .ok (.ifCond .eq 58, 3) := by decide +kernel
set_option maxRecDepth 20000 in
theorem dX5_isEnoughByThree_45 : decode cX5_isEnoughByThree 45 = .ok (.aload_n 0, 1) := by decide +kernel
set_option maxRecDepth 20000 in
theorem dX5_isEnoughByThree_46 : decode cX5_isEnoughByThree 46 = .ok (.lload 6, 2) := by decide +kernel
set_option maxRecDepth 20000 in
theorem dX5_isEnoughByThree_48 : decode cX5_isEnoughByThree 48 = .ok (.iload 5, 2) := by decide +kernel
set_option maxRecDepth 20000 in
theorem dX5_isEnoughByThree_50 : decode cX5_isEnoughByThree 50 = .ok (.invokevirtual 134, 3) := by decide +kernel
set_option maxRecDepth 20000 in
theorem dX5_isEnoughByThree_53 : decode cX5_isEnoughByThree 53 = .ok (.lstore 8, 2) := by decide +kernel
set_option maxRecDepth 20000 in
theorem dX5_isEnoughByThree_55 : decode cX5_isEnoughByThree 55 = .ok (.lload 6, 2) := by decide +kernel
set_option maxRecDepth 20000 in
theorem dX5_isEnoughByThree_57 : decode cX5_isEnoughByThree 57 = .ok (.lload 8, 2) := by decide +kernel
set_option maxRecDepth 20000 in
theorem dX5_isEnoughByThree_59 : decode cX5_isEnoughByThree 59 = .ok (.ldc2_w 138, 3) := by decide +kernel
set_option maxRecDepth 20000 in
theorem dX5_isEnoughByThree_62 : decode cX5_isEnoughByThree 62 = .ok (.lxor, 1) := by decide +kernel
set_option maxRecDepth 20000 in
theorem dX5_isEnoughByThree_63 : decode cX5_isEnoughByThree 63 = .ok (.land, 1) := by decide +kernel
set_option maxRecDepth 20000 in
theorem dX5_isEnoughByThree_64 : decode cX5_isEnoughByThree 64 = .ok (.lstore 6, 2) := by decide +kernel
set_option maxRecDepth 20000 in
theorem dX5_isEnoughByThree_66 : decode cX5_isEnoughByThree 66 = .ok (.aload_n 0, 1) := by decide +kernel
set_option maxRecDepth 20000 in
theorem dX5_isEnoughByThree_67 : decode cX5_isEnoughByThree 67 = .ok (.getfield 38, 3) := by decide +kernel
set_option maxRecDepth 20000 in
theorem dX5_isEnoughByThree_70 : decode cX5_isEnoughByThree 70 = .ok (.iload 5, 2) := by decide +kernel
set_option maxRecDepth 20000 in
theorem dX5_isEnoughByThree_72 : decode cX5_isEnoughByThree 72 = .ok (.dup2, 1) := by decide +kernel
set_option maxRecDepth 20000 in
theorem dX5_isEnoughByThree_73 : decode cX5_isEnoughByThree 73 = .ok (.iaload, 1) := by decide +kernel
set_option maxRecDepth 20000 in
theorem dX5_isEnoughByThree_74 : decode cX5_isEnoughByThree 74 = .ok (.iconst 1, 1) := by decide +kernel
set_option maxRecDepth 20000 in
theorem dX5_isEnoughByThree_75 : decode cX5_isEnoughByThree 75 = .ok (.iadd, 1) := by decide +kernel
set_option maxRecDepth 20000 in
theorem dX5_isEnoughByThree_76 : decode cX5_isEnoughByThree 76 = .ok (.iastore, 1) := by decide +kernel
set_option maxRecDepth 20000 in
theorem dX5_isEnoughByThree_77 : decode cX5_isEnoughByThree 77 = .ok (.aload_n 0, 1) := by decide +kernel
set_option maxRecDepth 20000 in
theorem dX5_isEnoughByThree_78 : decode cX5_isEnoughByThree 78 = .ok (.lload 8, 2) := by decide +kernel
set_option maxRecDepth 20000 in
theorem dX5_isEnoughByThree_80 : decode cX5_isEnoughByThree 80 = .ok (.iload_n 3, 1) := by decide +kernel
set_option maxRecDepth 20000 in
theorem dX5_isEnoughByThree_81 : decode cX5_isEnoughByThree 81 = .ok (.invokevirtual 148, 3) := by decide +kernel
set_option maxRecDepth 20000 in
theorem dX5_isEnoughByThree_84 : decode cX5_isEnoughByThree 84 = .ok (.istore 4, 2) := by decide +kernel
set_option maxRecDepth 20000 in
theorem dX5_isEnoughByThree_86 : decode cX5_isEnoughByThree 86 = .ok (.aload_n 0, 1) := by decide +kernel
set_option maxRecDepth 20000 in
theorem dX5_isEnoughByThree_87 : decode cX5_isEnoughByThree 87 = .ok (.getfield 38, 3) := by decide +kernel
set_option maxRecDepth 20000 in
theorem dX5_isEnoughByThree_90 : decode cX5_isEnoughByThree 90 = .ok (.iload 5, 2) := by decide +kernel
set_option maxRecDepth 20000 in
theorem dX5_isEnoughByThree_92 : decode cX5_isEnoughByThree 92 = .ok (.dup2, 1) := by decide +kernel
set_option maxRecDepth 20000 in
theorem dX5_isEnoughByThree_93 : decode cX5_isEnoughByThree 93 = .ok (.iaload, 1) := by decide +kernel
set_option maxRecDepth 20000 in
theorem dX5_isEnoughByThree_94 : decode cX5_isEnoughByThree 94 = .ok (.iconst 1, 1) := by decide +kernel
set_option maxRecDepth 20000 in
theorem dX5_isEnoughByThree_95 : decode cX5_isEnoughByThree 95 = .ok (.isub, 1) := by decide +kernel
set_option maxRecDepth 20000 in
theorem dX5_isEnoughByThree_96 : decode cX5_isEnoughByThree 96 = .ok (.iastore, 1) := by decide +kernel
set_option maxRecDepth 20000 in
theorem dX5_isEnoughByThree_97 : decode cX5_isEnoughByThree 97 = .ok (.goto (-64), 3) := by decide +kernel
set_option maxRecDepth 20000 in
theorem dX5_isEnoughByThree_100 : decode cX5_isEnoughByThree 100 = .ok (.iinc 5 1, 3) := by decide +kernel
set_option maxRecDepth 20000 in
theorem dX5_isEnoughByThree_103 : decode cX5_isEnoughByThree 103 = .ok (.goto (-92), 3) := by decide +kernel
set_option maxRecDepth 20000 in
theorem dX5_isEnoughByThree_106 : decode cX5_isEnoughByThree 106 = .ok (.iload 4, 2) := by decide +kernel
set_option maxRecDepth 20000 in
theorem dX5_isEnoughByThree_108 : decode cX5_isEnoughByThree 108 = .ok (.ireturn, 1) := by decide +kernel
set_option maxRecDepth 20000 in
theorem dX5_enough_0 : decode cX5_enough 0 = .ok (.aload_n 0, 1) := by decide +kernel
set_option maxRecDepth 20000 in
theorem dX5_enough_1 : decode cX5_enough 1 = .ok (.iload_n 1, 1) := by decide +kernel
set_option maxRecDepth 20000 in
theorem dX5_enough_2 : decode cX5_enough 2 = .ok (.invokevirtual 105, 3) := by decide +kernel
set_option maxRecDepth 20000 in
theorem dX5_enough_5 : decode cX5_enough 5 = .ok (.ifCond .eq 13, 3) := by decide +kernel
set_option maxRecDepth 20000 in
theorem dX5_enough_8 : decode cX5_enough 8 = .ok (.iload_n 2, 1) := by decide +kernel
set_option maxRecDepth 20000 in
theorem dX5_enough_9 : decode cX5_enough 9 = .ok (.iconst 1, 1) := by decide +kernel
set_option maxRecDepth 20000 in
theorem dX5_enough_10 : decode cX5_enough 10 = .ok (.bipush 61, 2) := by decide +kernel
set_option maxRecDepth 20000 in
theorem dX5_enough_12 : decode cX5_enough 12 = .ok (.invokestatic 52, 3) := by decide +kernel
set_option maxRecDepth 20000 in
theorem dX5_enough_15 : decode cX5_enough 15 = .ok (.ifCond .ne 5, 3) := by decide +kernel
set_option maxRecDepth 20000 in
theorem dX5_enough_18 : decode cX5_enough 18 = .ok (.iconst (-1), 1) := by decide +kernel
set_option maxRecDepth 20000 in
theorem dX5_enough_19 : decode cX5_enough 19 = .ok (.ireturn, 1) := by decide +kernel
set_option maxRecDepth 20000 in
theorem dX5_enough_20 : decode cX5_enough 20 = .ok (.aload_n 0, 1) := by decide +kernel
set_option maxRecDepth 20000 in
theorem dX5_enough_21 : decode cX5_enough 21 = .ok (.iload_n 1, 1) := by decide +kernel
set_option maxRecDepth 20000 in
theorem dX5_enough_22 : decode cX5_enough 22 = .ok (.invokevirtual 120, 3) := by decide +kernel
set_option maxRecDepth 20000 in
theorem dX5_enough_25 : decode cX5_enough 25 = .ok (.lstore_n 3, 1) := by decide +kernel
set_option maxRecDepth 20000 in
theorem dX5_enough_26 : decode cX5_enough 26 = .ok (.lload_n 3, 1) := by decide +kernel
set_option maxRecDepth 20000 in
theorem dX5_enough_27 : decode cX5_enough 27 = .ok (.invokestatic 124, 3) := by decide +kernel
set_option maxRecDepth 20000 in
theorem dX5_enough_30 : decode cX5_enough 30 = .ok (.iload_n 2, 1) := by decide +kernel
set_option maxRecDepth 20000 in
theorem dX5_enough_31 : decode cX5_enough 31 = .ok (.if_icmp .gt 7, 3) := by decide +kernel
set_option maxRecDepth 20000 in
theorem dX5_enough_34 : decode cX5_enough 34 = .ok (.iconst 0, 1) := by decide +kernel
set_option maxRecDepth 20000 in
theorem dX5_enough_35 : decode cX5_enough 35 = .ok (.goto 44, 3) := by decide +kernel
set_option maxRecDepth 20000 in
theorem dX5_enough_38 : decode cX5_enough 38 = .ok (.aload_n 0, 1) := by decide +kernel
set_option maxRecDepth 20000 in
theorem dX5_enough_39 : decode cX5_enough 39 = .ok (.lload_n 3, 1) := by decide +kernel
set_option maxRecDepth 20000 in
theorem dX5_enough_40 : decode cX5_enough 40 = .ok (.iload_n 2, 1) := by decide +kernel
set_option maxRecDepth 20000 in
theorem dX5_enough_41 : decode cX5_enough 41 = .ok (.invokevirtual 144, 3) := by decide +kernel
set_option maxRecDepth 20000 in
theorem dX5_enough_44 : decode cX5_enough 44 = .ok (.ifCond .eq 7, 3) := by decide +kernel
set_option maxRecDepth 20000 in
theorem dX5_enough_47 : decode cX5_enough 47 = .ok (.iconst 1, 1) := by decide +kernel
set_option maxRecDepth 20000 in
theorem dX5_enough_48 : decode cX5_enough 48 = .ok (.goto 31, 3) := by decide +kernel
set_option maxRecDepth 20000 in
theorem dX5_enough_51 : decode cX5_enough 51 = .ok (.aload_n 0, 1) := by decide +kernel
set_option maxRecDepth 20000 in
theorem dX5_enough_52 : decode cX5_enough 52 = .ok (.lload_n 3, 1) := by decide +kernel
set_option maxRecDepth 20000 in
theorem dX5_enough_53 : decode cX5_enough 53 = .ok (.iload_n 2, 1) := by decide +kernel
set_option maxRecDepth 20000 in
theorem dX5_enough_54 : decode cX5_enough 54 = .ok (.invokevirtual 148, 3) := by decide +kernel
set_option maxRecDepth 20000 in
theorem dX5_enough_57 : decode cX5_enough 57 = .ok (.ifCond .eq 7, 3) := by decide +kernel
set_option maxRecDepth 20000 in
theorem dX5_enough_60 : decode cX5_enough 60 = .ok (.iconst 2, 1) := by decide +kernel
set_option maxRecDepth 20000 in
theorem dX5_enough_61 : decode cX5_enough 61 = .ok (.goto 18, 3) := by decide +kernel
set_option maxRecDepth 20000 in
theorem dX5_enough_64 : decode cX5_enough 64 = .ok (.aload_n 0, 1) := by decide +kernel
set_option maxRecDepth 20000 in
theorem dX5_enough_65 : decode cX5_enough 65 = .ok (.lload_n 3, 1) := by decide +kernel
set_option maxRecDepth 20000 in
theorem dX5_enough_66 : decode cX5_enough 66 = .ok (.iload_n 2, 1) := by decide +kernel
set_option maxRecDepth 20000 in
theorem dX5_enough_67 : decode cX5_enough 67 = .ok (.invokevirtual 151, 3) := by decide +kernel
set_option maxRecDepth 20000 in
theorem dX5_enough_70 : decode cX5_enough 70 = .ok (.ifCond .eq 7, 3) := by decide +kernel
set_option maxRecDepth 20000 in
theorem dX5_enough_73 : decode cX5_enough 73 = .ok (.iconst 3, 1) := by decide +kernel
set_option maxRecDepth 20000 in
theorem dX5_enough_74 : decode cX5_enough 74 = .ok (.goto 5, 3) := by decide +kernel
set_option maxRecDepth 20000 in
theorem dX5_enough_77 : decode cX5_enough 77 = .ok (.bipush (-9), 2) := by decide +kernel
set_option maxRecDepth 20000 in
theorem dX5_enough_79 : decode cX5_enough 79 = .ok (.ireturn, 1) := by decide +kernel
set_option maxRecDepth 20000 in
theorem dX5_heavier_0 : decode cX5_heavier 0 = .ok (.aload_n 0, 1) := by decide +kernel
set_option maxRecDepth 20000 in
theorem dX5_heavier_1 : decode cX5_heavier 1 = .ok (.iload_n 1, 1) := by decide +kernel
set_option maxRecDepth 20000 in
theorem dX5_heavier_2 : decode cX5_heavier 2 = .ok (.invokevirtual 105, 3) := by decide +kernel
set_option maxRecDepth 20000 in
theorem dX5_heavier_5 : decode cX5_heavier 5 = .ok (.ifCond .eq 16, 3) := by decide +kernel
set_option maxRecDepth 20000 in
theorem dX5_heavier_8 : decode cX5_heavier 8 = .ok (.aload_n 0, 1) := by decide +kernel
set_option maxRecDepth 20000 in
theorem dX5_heavier_9 : decode cX5_heavier 9 = .ok (.iload_n 2, 1) := by decide +kernel
set_option maxRecDepth 20000 in
theorem dX5_heavier_10 : decode cX5_heavier 10 = .ok (.invokevirtual 105, 3) := by decide +kernel
set_option maxRecDepth 20000 in
theorem dX5_heavier_13 : decode cX5_heavier 13 = .ok (.ifCond .eq 8, 3) := by decide +kernel
set_option maxRecDepth 20000 in
theorem dX5_heavier_16 : decode cX5_heavier 16 = .ok (.iload_n 1, 1) := by decide +kernel
set_option maxRecDepth 20000 in
theorem dX5_heavier_17 : decode cX5_heavier 17 = .ok (.iload_n 2, 1) := by decide +kernel
set_option maxRecDepth 20000 in
theorem dX5_heavier_18 : decode cX5_heavier 18 = .ok (.if_icmp .ne 5, 3) := by decide +kernel
set_option maxRecDepth 20000 in
theorem dX5_heavier_21 : decode cX5_heavier 21 = .ok (.iconst (-1), 1) := by decide +kernel
set_option maxRecDepth 20000 in
theorem dX5_heavier_22 : decode cX5_heavier 22 = .ok (.ireturn, 1) := by decide +kernel
set_option maxRecDepth 20000 in
theorem dX5_heavier_23 : decode cX5_heavier 23 = .ok (.aload_n 0, 1) := by decide +kernel
set_option maxRecDepth 20000 in
theorem dX5_heavier_24 : decode cX5_heavier 24 = .ok (.iload_n 1, 1) := by decide +kernel
set_option maxRecDepth 20000 in
theorem dX5_heavier_25 : decode cX5_heavier 25 = .ok (.invokevirtual 120, 3) := by decide +kernel
set_option maxRecDepth 20000 in
theorem dX5_heavier_28 : decode cX5_heavier 28 = .ok (.lstore_n 3, 1) := by decide +kernel
set_option maxRecDepth 20000 in
theorem dX5_heavier_29 : decode cX5_heavier 29 = .ok (.aload_n 0, 1) := by decide +kernel
set_option maxRecDepth 20000 in
theorem dX5_heavier_30 : decode cX5_heavier 30 = .ok (.iload_n 2, 1) := by decide +kernel
set_option maxRecDepth 20000 in
theorem dX5_heavier_31 : decode cX5_heavier 31 = .ok (.invokevirtual 120, 3) := by decide +kernel
set_option maxRecDepth 20000 in
theorem dX5_heavier_34 : decode cX5_heavier 34 = .ok (.lstore 5, 2) := by decide +kernel
set_option maxRecDepth 20000 in
theorem dX5_heavier_36 : decode cX5_heavier 36 = .ok (.lload_n 3, 1) := by decide +kernel
set_option maxRecDepth 20000 in
theorem dX5_heavier_37 : decode cX5_heavier 37 = .ok (.invokestatic 128, 3) := by decide +kernel
set_option maxRecDepth 20000 in
theorem dX5_heavier_40 : decode cX5_heavier 40 = .ok (.lload 5, 2) := by decide +kernel
set_option maxRecDepth 20000 in
theorem dX5_heavier_42 : decode cX5_heavier 42 = .ok (.invokestatic 131, 3) := by decide +kernel
set_option maxRecDepth 20000 in
theorem dX5_heavier_45 : decode cX5_heavier 45 = .ok (.if_icmp .le 7, 3) := by decide +kernel
set_option maxRecDepth 20000 in
theorem dX5_heavier_48 : decode cX5_heavier 48 = .ok (.iconst 1, 1) := by decide +kernel
set_option maxRecDepth 20000 in
theorem dX5_heavier_49 : decode cX5_heavier 49 = .ok (.goto 21, 3) := by decide +kernel
set_option maxRecDepth 20000 in
theorem dX5_heavier_52 : decode cX5_heavier 52 = .ok (.lload_n 3, 1) := by decide +kernel
set_option maxRecDepth 20000 in
theorem dX5_heavier_53 : decode cX5_heavier 53 = .ok (.invokestatic 131, 3) := by decide +kernel
set_option maxRecDepth 20000 in
theorem dX5_heavier_56 : decode cX5_heavier 56 = .ok (.lload 5, 2) := by decide +kernel
set_option maxRecDepth 20000 in
theorem dX5_heavier_58 : decode cX5_heavier 58 = .ok (.invokestatic 128, 3) := by decide +kernel
set_option maxRecDepth 20000 in
theorem dX5_heavier_61 : decode cX5_heavier 61 = .ok (.if_icmp .ge 8, 3) := by decide +kernel
set_option maxRecDepth 20000 in
theorem dX5_heavier_64 : decode cX5_heavier 64 = .ok (.bipush (-2), 2) := by decide +kernel
set_option maxRecDepth 20000 in
theorem dX5_heavier_66 : decode cX5_heavier 66 = .ok (.goto 4, 3) := by decide +kernel
set_option maxRecDepth 20000 in
theorem dX5_heavier_69 : decode cX5_heavier 69 = .ok (.iconst 0, 1) := by decide +kernel
set_option maxRecDepth 20000 in
theorem dX5_heavier_70 : decode cX5_heavier 70 = .ok (.ireturn, 1) := by decide +kernel
set_option maxRecDepth 20000 in
theorem dX5_isTasting_0 : decode cX5_isTasting 0 = .ok (.iload_n 0, 1) := by decide +kernel
set_option maxRecDepth 20000 in
theorem dX5_isTasting_1 : decode cX5_isTasting 1 = .ok (.iconst 0, 1) := by decide +kernel
set_option maxRecDepth 20000 in
theorem dX5_isTasting_2 : decode cX5_isTasting 2 = .ok (.bipush 60, 2) := by decide +kernel
set_option maxRecDepth 20000 in
theorem dX5_isTasting_4 : decode cX5_isTasting 4 = .ok (.invokestatic 52, 3) := by decide +kernel
set_option maxRecDepth 20000 in
theorem dX5_isTasting_7 : decode cX5_isTasting 7 = .ok (.ifCond .eq 27, 3) := by decide +kernel
set_option maxRecDepth 20000 in
theorem dX5_isTasting_10 : decode cX5_isTasting 10 = .ok (.iload_n 1, 1) := by decide +kernel
set_option maxRecDepth 20000 in
theorem dX5_isTasting_11 : decode cX5_isTasting 11 = .ok (.iconst 0, 1) := by decide +kernel
set_option maxRecDepth 20000 in
theorem dX5_isTasting_12 : decode cX5_isTasting 12 = .ok (.bipush 9, 2) := by decide +kernel
set_option maxRecDepth 20000 in
theorem dX5_isTasting_14 : decode cX5_isTasting 14 = .ok (.invokestatic 52, 3) := by decide +kernel
set_option maxRecDepth 20000 in
theorem dX5_isTasting_17 : decode cX5_isTasting 17 = .ok (.ifCond .eq 17, 3) := by decide +kernel
set_option maxRecDepth 20000 in
theorem dX5_isTasting_20 : decode cX5_isTasting 20 = .ok (.iload_n 2, 1) := by decide +kernel
set_option maxRecDepth 20000 in
theorem dX5_isTasting_21 : decode cX5_isTasting 21 = .ok (.iconst 0, 1) := by decide +kernel
set_option maxRecDepth 20000 in
theorem dX5_isTasting_22 : decode cX5_isTasting 22 = .ok (.bipush 9, 2) := by decide +kernel
set_option maxRecDepth 20000 in
theorem dX5_isTasting_24 : decode cX5_isTasting 24 = .ok (.invokestatic 52, 3) := by decide +kernel
set_option maxRecDepth 20000 in
theorem dX5_isTasting_27 : decode cX5_isTasting 27 = .ok (.ifCond .eq 7, 3) := by decide +kernel
set_option maxRecDepth 20000 in
theorem dX5_isTasting_30 : decode cX5_isTasting 30 = .ok (.iconst 1, 1) := by decide +kernel
set_option maxRecDepth 20000 in
theorem dX5_isTasting_31 : decode cX5_isTasting 31 = .ok (.goto 4, 3) := by decide +kernel
set_option maxRecDepth 20000 in
theorem dX5_isTasting_34 : decode cX5_isTasting 34 = .ok (.iconst 0, 1) := by decide +kernel
set_option maxRecDepth 20000 in
theorem dX5_isTasting_35 : decode cX5_isTasting 35 = .ok (.ireturn, 1) := by decide +kernel
set_option maxRecDepth 20000 in
theorem dX5_told_0 : decode cX5_told 0 = .ok (.iload_n 1, 1) := by decide +kernel
set_option maxRecDepth 20000 in
theorem dX5_told_1 : decode cX5_told 1 = .ok (.iload_n 2, 1) := by decide +kernel
set_option maxRecDepth 20000 in
theorem dX5_told_2 : decode cX5_told 2 = .ok (.iload_n 3, 1) := by decide +kernel
set_option maxRecDepth 20000 in
theorem dX5_told_3 : decode cX5_told 3 = .ok (.invokestatic 154, 3) := by decide +kernel
set_option maxRecDepth 20000 in
theorem dX5_told_6 : decode cX5_told 6 = .ok (.ifCond .eq 15, 3) := by decide +kernel
set_option maxRecDepth 20000 in
theorem dX5_told_9 : decode cX5_told 9 = .ok (.iload 4, 2) := by decide +kernel
set_option maxRecDepth 20000 in
theorem dX5_told_11 : decode cX5_told 11 = .ok (.iconst 0, 1) := by decide +kernel
set_option maxRecDepth 20000 in
theorem dX5_told_12 : decode cX5_told 12 = .ok (.sipush 999, 3) := by decide +kernel
set_option maxRecDepth 20000 in
theorem dX5_told_15 : decode cX5_told 15 = .ok (.invokestatic 52, 3) := by decide +kernel
set_option maxRecDepth 20000 in
theorem dX5_told_18 : decode cX5_told 18 = .ok (.ifCond .ne 5, 3) := by decide +kernel
set_option maxRecDepth 20000 in
theorem dX5_told_21 : decode cX5_told 21 = .ok (.iconst (-1), 1) := by decide +kernel
set_option maxRecDepth 20000 in
theorem dX5_told_22 : decode cX5_told 22 = .ok (.ireturn, 1) := by decide +kernel
set_option maxRecDepth 20000 in
theorem dX5_told_23 : decode cX5_told 23 = .ok (.aload_n 0, 1) := by decide +kernel
set_option maxRecDepth 20000 in
theorem dX5_told_24 : decode cX5_told 24 = .ok (.getfield 98, 3) := by decide +kernel
set_option maxRecDepth 20000 in
theorem dX5_told_27 : decode cX5_told 27 = .ok (.bipush 8, 2) := by decide +kernel
set_option maxRecDepth 20000 in
theorem dX5_told_29 : decode cX5_told 29 = .ok (.if_icmp .ne 6, 3) := by decide +kernel
set_option maxRecDepth 20000 in
theorem dX5_told_32 : decode cX5_told 32 = .ok (.bipush (-3), 2) := by decide +kernel
set_option maxRecDepth 20000 in
theorem dX5_told_34 : decode cX5_told 34 = .ok (.ireturn, 1) := by decide +kernel
set_option maxRecDepth 20000 in
theorem dX5_told_35 : decode cX5_told 35 = .ok (.aload_n 0, 1) := by decide +kernel
set_option maxRecDepth 20000 in
theorem dX5_told_36 : decode cX5_told 36 = .ok (.getfield 45, 3) := by decide +kernel
set_option maxRecDepth 20000 in
theorem dX5_told_39 : decode cX5_told 39 = .ok (.iconst 4, 1) := by decide +kernel
set_option maxRecDepth 20000 in
theorem dX5_told_40 : decode cX5_told 40 = .ok (.aload_n 0, 1) := by decide +kernel
set_option maxRecDepth 20000 in
theorem dX5_told_41 : decode cX5_told 41 = .ok (.getfield 98, 3) := by decide +kernel
set_option maxRecDepth 20000 in
theorem dX5_told_44 : decode cX5_told 44 = .ok (.imul, 1) := by decide +kernel
set_option maxRecDepth 20000 in
theorem dX5_told_45 : decode cX5_told 45 = .ok (.iload_n 1, 1) := by decide +kernel
set_option maxRecDepth 20000 in
theorem dX5_told_46 : decode cX5_told 46 = .ok (.iastore, 1) := by decide +kernel
set_option maxRecDepth 20000 in
theorem dX5_told_47 : decode cX5_told 47 = .ok (.aload_n 0, 1) := by decide +kernel
set_option maxRecDepth 20000 in
theorem dX5_told_48 : decode cX5_told 48 = .ok (.getfield 45, 3) := by decide +kernel
set_option maxRecDepth 20000 in
theorem dX5_told_51 : decode cX5_told 51 = .ok (.iconst 4, 1) := by decide +kernel
set_option maxRecDepth 20000 in
theorem dX5_told_52 : decode cX5_told 52 = .ok (.aload_n 0, 1) := by decide +kernel
set_option maxRecDepth 20000 in
theorem dX5_told_53 : decode cX5_told 53 = .ok (.getfield 98, 3) := by decide +kernel
set_option maxRecDepth 20000 in
theorem dX5_told_56 : decode cX5_told 56 = .ok (.imul, 1) := by decide +kernel
set_option maxRecDepth 20000 in
theorem dX5_told_57 : decode cX5_told 57 = .ok (.iconst 1, 1) := by decide +kernel
set_option maxRecDepth 20000 in
theorem dX5_told_58 : decode cX5_told 58 = .ok (.iadd, 1) := by decide +kernel
set_option maxRecDepth 20000 in
theorem dX5_told_59 : decode cX5_told 59 = .ok (.iload_n 2, 1) := by decide +kernel
set_option maxRecDepth 20000 in
theorem dX5_told_60 : decode cX5_told 60 = .ok (.iastore, 1) := by decide +kernel
set_option maxRecDepth 20000 in
theorem dX5_told_61 : decode cX5_told 61 = .ok (.aload_n 0, 1) := by decide +kernel
set_option maxRecDepth 20000 in
theorem dX5_told_62 : decode cX5_told 62 = .ok (.getfield 45, 3) := by decide +kernel
set_option maxRecDepth 20000 in
theorem dX5_told_65 : decode cX5_told 65 = .ok (.iconst 4, 1) := by decide +kernel
set_option maxRecDepth 20000 in
theorem dX5_told_66 : decode cX5_told 66 = .ok (.aload_n 0, 1) := by decide +kernel
set_option maxRecDepth 20000 in
theorem dX5_told_67 : decode cX5_told 67 = .ok (.getfield 98, 3) := by decide +kernel
set_option maxRecDepth 20000 in
theorem dX5_told_70 : decode cX5_told 70 = .ok (.imul, 1) := by decide +kernel
set_option maxRecDepth 20000 in
theorem dX5_told_71 : decode cX5_told 71 = .ok (.iconst 2, 1) := by decide +kernel
set_option maxRecDepth 20000 in
theorem dX5_told_72 : decode cX5_told 72 = .ok (.iadd, 1) := by decide +kernel
set_option maxRecDepth 20000 in
theorem dX5_told_73 : decode cX5_told 73 = .ok (.iload_n 3, 1) := by decide +kernel
set_option maxRecDepth 20000 in
theorem dX5_told_74 : decode cX5_told 74 = .ok (.iastore, 1) := by decide +kernel
set_option maxRecDepth 20000 in
theorem dX5_told_75 : decode cX5_told 75 = .ok (.aload_n 0, 1) := by decide +kernel
set_option maxRecDepth 20000 in
theorem dX5_told_76 : decode cX5_told 76 = .ok (.getfield 45, 3) := by decide +kernel
set_option maxRecDepth 20000 in
theorem dX5_told_79 : decode cX5_told 79 = .ok (.iconst 4, 1) := by decide +kernel
set_option maxRecDepth 20000 in
theorem dX5_told_80 : decode cX5_told 80 = .ok (.aload_n 0, 1) := by decide +kernel
set_option maxRecDepth 20000 in
theorem dX5_told_81 : decode cX5_told 81 = .ok (.getfield 98, 3) := by decide +kernel
set_option maxRecDepth 20000 in
theorem dX5_told_84 : decode cX5_told 84 = .ok (.imul, 1) := by decide +kernel
set_option maxRecDepth 20000 in
theorem dX5_told_85 : decode cX5_told 85 = .ok (.iconst 3, 1) := by decide +kernel
set_option maxRecDepth 20000 in
theorem dX5_told_86 : decode cX5_told 86 = .ok (.iadd, 1) := by decide +kernel
set_option maxRecDepth 20000 in
theorem dX5_told_87 : decode cX5_told 87 = .ok (.iload 4, 2) := by decide +kernel
set_option maxRecDepth 20000 in
theorem dX5_told_89 : decode cX5_told 89 = .ok (.iastore, 1) := by decide +kernel
set_option maxRecDepth 20000 in
theorem dX5_told_90 : decode cX5_told 90 = .ok (.aload_n 0, 1) := by decide +kernel
set_option maxRecDepth 20000 in
theorem dX5_told_91 : decode cX5_told 91 = .ok (.dup, 1) := by decide +kernel
set_option maxRecDepth 20000 in
theorem dX5_told_92 : decode cX5_told 92 = .ok (.getfield 98, 3) := by decide +kernel
set_option maxRecDepth 20000 in
theorem dX5_told_95 : decode cX5_told 95 = .ok (.iconst 1, 1) := by decide +kernel
set_option maxRecDepth 20000 in
theorem dX5_told_96 : decode cX5_told 96 = .ok (.iadd, 1) := by decide +kernel
set_option maxRecDepth 20000 in
theorem dX5_told_97 : decode cX5_told 97 = .ok (.putfield 98, 3) := by decide +kernel
set_option maxRecDepth 20000 in
theorem dX5_told_100 : decode cX5_told 100 = .ok (.aload_n 0, 1) := by decide +kernel
set_option maxRecDepth 20000 in
theorem dX5_told_101 : decode cX5_told 101 = .ok (.getfield 98, 3) := by decide +kernel
set_option maxRecDepth 20000 in
theorem dX5_told_104 : decode cX5_told 104 = .ok (.ireturn, 1) := by decide +kernel
set_option maxRecDepth 20000 in
theorem dX5_forget_0 : decode cX5_forget 0 = .ok (.aload_n 0, 1) := by decide +kernel
set_option maxRecDepth 20000 in
theorem dX5_forget_1 : decode cX5_forget 1 = .ok (.getfield 98, 3) := by decide +kernel
set_option maxRecDepth 20000 in
theorem dX5_forget_4 : decode cX5_forget 4 = .ok (.istore_n 1, 1) := by decide +kernel
set_option maxRecDepth 20000 in
theorem dX5_forget_5 : decode cX5_forget 5 = .ok (.aload_n 0, 1) := by decide +kernel
set_option maxRecDepth 20000 in
theorem dX5_forget_6 : decode cX5_forget 6 = .ok (.iconst 0, 1) := by decide +kernel
set_option maxRecDepth 20000 in
theorem dX5_forget_7 : decode cX5_forget 7 = .ok (.putfield 98, 3) := by decide +kernel
set_option maxRecDepth 20000 in
theorem dX5_forget_10 : decode cX5_forget 10 = .ok (.iload_n 1, 1) := by decide +kernel
set_option maxRecDepth 20000 in
theorem dX5_forget_11 : decode cX5_forget 11 = .ok (.ireturn, 1) := by decide +kernel
set_option maxRecDepth 20000 in
theorem dX5_aOf_0 : decode cX5_aOf 0 = .ok (.iload_n 0, 1) := by decide +kernel
set_option maxRecDepth 20000 in
theorem dX5_aOf_1 : decode cX5_aOf 1 = .ok (.sipush 360, 3) := by decide +kernel
set_option maxRecDepth 20000 in
theorem dX5_aOf_4 : decode cX5_aOf 4 = .ok (.idiv, 1) := by decide +kernel
set_option maxRecDepth 20000 in
theorem dX5_aOf_5 : decode cX5_aOf 5 = .ok (.iconst 1, 1) := by decide +kernel
set_option maxRecDepth 20000 in
theorem dX5_aOf_6 : decode cX5_aOf 6 = .ok (.iadd, 1) := by decide +kernel
set_option maxRecDepth 20000 in
theorem dX5_aOf_7 : decode cX5_aOf 7 = .ok (.ireturn, 1) := by decide +kernel
set_option maxRecDepth 20000 in
theorem dX5_bOf_0 : decode cX5_bOf 0 = .ok (.iload_n 0, 1) := by decide +kernel
set_option maxRecDepth 20000 in
theorem dX5_bOf_1 : decode cX5_bOf 1 = .ok (.bipush 36, 2) := by decide +kernel
set_option maxRecDepth 20000 in
theorem dX5_bOf_3 : decode cX5_bOf 3 = .ok (.idiv, 1) := by decide +kernel
set_option maxRecDepth 20000 in
theorem dX5_bOf_4 : decode cX5_bOf 4 = .ok (.bipush 10, 2) := by decide +kernel
set_option maxRecDepth 20000 in
theorem dX5_bOf_6 : decode cX5_bOf 6 = .ok (.irem, 1) := by decide +kernel
set_option maxRecDepth 20000 in
theorem dX5_bOf_7 : decode cX5_bOf 7 = .ok (.ireturn, 1) := by decide +kernel
set_option maxRecDepth 20000 in
theorem dX5_dOf_0 : decode cX5_dOf 0 = .ok (.iload_n 0, 1) := by decide +kernel
set_option maxRecDepth 20000 in
theorem dX5_dOf_1 : decode cX5_dOf 1 = .ok (.iconst 4, 1) := by decide +kernel
set_option maxRecDepth 20000 in
theorem dX5_dOf_2 : decode cX5_dOf 2 = .ok (.idiv, 1) := by decide +kernel
set_option maxRecDepth 20000 in
theorem dX5_dOf_3 : decode cX5_dOf 3 = .ok (.bipush 9, 2) := by decide +kernel
set_option maxRecDepth 20000 in
theorem dX5_dOf_5 : decode cX5_dOf 5 = .ok (.irem, 1) := by decide +kernel
set_option maxRecDepth 20000 in
theorem dX5_dOf_6 : decode cX5_dOf 6 = .ok (.iconst 1, 1) := by decide +kernel
set_option maxRecDepth 20000 in
theorem dX5_dOf_7 : decode cX5_dOf 7 = .ok (.iadd, 1) := by decide +kernel
set_option maxRecDepth 20000 in
theorem dX5_dOf_8 : decode cX5_dOf 8 = .ok (.ireturn, 1) := by decide +kernel
set_option maxRecDepth 20000 in
theorem dX5_tOf_0 : decode cX5_tOf 0 = .ok (.iload_n 0, 1) := by decide +kernel
set_option maxRecDepth 20000 in
theorem dX5_tOf_1 : decode cX5_tOf 1 = .ok (.iconst 4, 1) := by decide +kernel
set_option maxRecDepth 20000 in
theorem dX5_tOf_2 : decode cX5_tOf 2 = .ok (.irem, 1) := by decide +kernel
set_option maxRecDepth 20000 in
theorem dX5_tOf_3 : decode cX5_tOf 3 = .ok (.ireturn, 1) := by decide +kernel
set_option maxRecDepth 20000 in
theorem dX5_isAsTold_0 : decode cX5_isAsTold 0 = .ok (.iconst 1, 1) := by decide +kernel
set_option maxRecDepth 20000 in
theorem dX5_isAsTold_1 : decode cX5_isAsTold 1 = .ok (.istore_n 2, 1) := by decide +kernel
set_option maxRecDepth 20000 in
theorem dX5_isAsTold_2 : decode cX5_isAsTold 2 = .ok (.iconst 0, 1) := by decide +kernel
set_option maxRecDepth 20000 in
theorem dX5_isAsTold_3 : decode cX5_isAsTold 3 = .ok (.istore_n 3, 1) := by decide +kernel
set_option maxRecDepth 20000 in
theorem dX5_isAsTold_4 : decode cX5_isAsTold 4 = .ok (.iload_n 3, 1) := by decide +kernel
set_option maxRecDepth 20000 in
theorem dX5_isAsTold_5 : decode cX5_isAsTold 5 = .ok (.aload_n 0, 1) := by decide +kernel
set_option maxRecDepth 20000 in
theorem dX5_isAsTold_6 : decode cX5_isAsTold 6 = .ok (.getfield 98, 3) := by decide +kernel
set_option maxRecDepth 20000 in
theorem dX5_isAsTold_9 : decode cX5_isAsTold 9 = .ok (.if_icmp .ge 83, 3) := by decide +kernel
set_option maxRecDepth 20000 in
theorem dX5_isAsTold_12 : decode cX5_isAsTold 12 = .ok (.iload_n 2, 1) := by decide +kernel
set_option maxRecDepth 20000 in
theorem dX5_isAsTold_13 : decode cX5_isAsTold 13 = .ok (.ifCond .eq 79, 3) := by decide +kernel
set_option maxRecDepth 20000 in
theorem dX5_isAsTold_16 : decode cX5_isAsTold 16 = .ok (.iload_n 1, 1) := by decide +kernel
set_option maxRecDepth 20000 in
theorem dX5_isAsTold_17 : decode cX5_isAsTold 17 = .ok (.invokestatic 157, 3) := by decide +kernel
set_option maxRecDepth 20000 in
theorem dX5_isAsTold_20 : decode cX5_isAsTold 20 = .ok (.iload_n 1, 1) := by decide +kernel
set_option maxRecDepth 20000 in
theorem dX5_isAsTold_21 : decode cX5_isAsTold 21 = .ok (.invokestatic 161, 3) := by decide +kernel
set_option maxRecDepth 20000 in
theorem dX5_isAsTold_24 : decode cX5_isAsTold 24 = .ok (.iload_n 1, 1) := by decide +kernel
set_option maxRecDepth 20000 in
theorem dX5_isAsTold_25 : decode cX5_isAsTold 25 = .ok (.invokestatic 164, 3) := by decide +kernel
set_option maxRecDepth 20000 in
theorem dX5_isAsTold_28 : decode cX5_isAsTold 28 = .ok (.iload_n 1, 1) := by decide +kernel
set_option maxRecDepth 20000 in
theorem dX5_isAsTold_29 : decode cX5_isAsTold 29 = .ok (.invokestatic 167, 3) := by decide +kernel
set_option maxRecDepth 20000 in
theorem dX5_isAsTold_32 : decode cX5_isAsTold 32 = .ok (.aload_n 0, 1) := by decide +kernel
set_option maxRecDepth 20000 in
theorem dX5_isAsTold_33 : decode cX5_isAsTold 33 = .ok (.getfield 45, 3) := by decide +kernel
set_option maxRecDepth 20000 in
theorem dX5_isAsTold_36 : decode cX5_isAsTold 36 = .ok (.iconst 4, 1) := by decide +kernel
set_option maxRecDepth 20000 in
theorem dX5_isAsTold_37 : decode cX5_isAsTold 37 = .ok (.iload_n 3, 1) := by decide +kernel
set_option maxRecDepth 20000 in
theorem dX5_isAsTold_38 : decode cX5_isAsTold 38 = .ok (.imul, 1) := by decide +kernel
set_option maxRecDepth 20000 in
theorem dX5_isAsTold_39 : decode cX5_isAsTold 39 = .ok (.iaload, 1) := by decide +kernel
set_option maxRecDepth 20000 in
theorem dX5_isAsTold_40 : decode cX5_isAsTold 40 = .ok (.aload_n 0, 1) := by decide +kernel
set_option maxRecDepth 20000 in
theorem dX5_isAsTold_41 : decode cX5_isAsTold 41 = .ok (.getfield 45, 3) := by decide +kernel
set_option maxRecDepth 20000 in
theorem dX5_isAsTold_44 : decode cX5_isAsTold 44 = .ok (.iconst 4, 1) := by decide +kernel
set_option maxRecDepth 20000 in
theorem dX5_isAsTold_45 : decode cX5_isAsTold 45 = .ok (.iload_n 3, 1) := by decide +kernel
set_option maxRecDepth 20000 in
theorem dX5_isAsTold_46 : decode cX5_isAsTold 46 = .ok (.imul, 1) := by decide +kernel
set_option maxRecDepth 20000 in
theorem dX5_isAsTold_47 : decode cX5_isAsTold 47 = .ok (.iconst 1, 1) := by decide +kernel
set_option maxRecDepth 20000 in
theorem dX5_isAsTold_48 : decode cX5_isAsTold 48 = .ok (.iadd, 1) := by decide +kernel
set_option maxRecDepth 20000 in
theorem dX5_isAsTold_49 : decode cX5_isAsTold 49 = .ok (.iaload, 1) := by decide +kernel
set_option maxRecDepth 20000 in
theorem dX5_isAsTold_50 : decode cX5_isAsTold 50 = .ok (.aload_n 0, 1) := by decide +kernel
set_option maxRecDepth 20000 in
theorem dX5_isAsTold_51 : decode cX5_isAsTold 51 = .ok (.getfield 45, 3) := by decide +kernel
set_option maxRecDepth 20000 in
theorem dX5_isAsTold_54 : decode cX5_isAsTold 54 = .ok (.iconst 4, 1) := by decide +kernel
set_option maxRecDepth 20000 in
theorem dX5_isAsTold_55 : decode cX5_isAsTold 55 = .ok (.iload_n 3, 1) := by decide +kernel
set_option maxRecDepth 20000 in
theorem dX5_isAsTold_56 : decode cX5_isAsTold 56 = .ok (.imul, 1) := by decide +kernel
set_option maxRecDepth 20000 in
theorem dX5_isAsTold_57 : decode cX5_isAsTold 57 = .ok (.iconst 2, 1) := by decide +kernel
set_option maxRecDepth 20000 in
theorem dX5_isAsTold_58 : decode cX5_isAsTold 58 = .ok (.iadd, 1) := by decide +kernel
set_option maxRecDepth 20000 in
theorem dX5_isAsTold_59 : decode cX5_isAsTold 59 = .ok (.iaload, 1) := by decide +kernel
set_option maxRecDepth 20000 in
theorem dX5_isAsTold_60 : decode cX5_isAsTold 60 = .ok (.invokestatic 101, 3) := by decide +kernel
set_option maxRecDepth 20000 in
theorem dX5_isAsTold_63 : decode cX5_isAsTold 63 = .ok (.istore 4, 2) := by decide +kernel
set_option maxRecDepth 20000 in
theorem dX5_isAsTold_65 : decode cX5_isAsTold 65 = .ok (.iload 4, 2) := by decide +kernel
set_option maxRecDepth 20000 in
theorem dX5_isAsTold_67 : decode cX5_isAsTold 67 = .ok (.aload_n 0, 1) := by decide +kernel
set_option maxRecDepth 20000 in
theorem dX5_isAsTold_68 : decode cX5_isAsTold 68 = .ok (.getfield 45, 3) := by decide +kernel
set_option maxRecDepth 20000 in
theorem dX5_isAsTold_71 : decode cX5_isAsTold 71 = .ok (.iconst 4, 1) := by decide +kernel
set_option maxRecDepth 20000 in
theorem dX5_isAsTold_72 : decode cX5_isAsTold 72 = .ok (.iload_n 3, 1) := by decide +kernel
set_option maxRecDepth 20000 in
theorem dX5_isAsTold_73 : decode cX5_isAsTold 73 = .ok (.imul, 1) := by decide +kernel
set_option maxRecDepth 20000 in
theorem dX5_isAsTold_74 : decode cX5_isAsTold 74 = .ok (.iconst 3, 1) := by decide +kernel
set_option maxRecDepth 20000 in
theorem dX5_isAsTold_75 : decode cX5_isAsTold 75 = .ok (.iadd, 1) := by decide +kernel
set_option maxRecDepth 20000 in
theorem dX5_isAsTold_76 : decode cX5_isAsTold 76 = .ok (.iaload, 1) := by decide +kernel
set_option maxRecDepth 20000 in
theorem dX5_isAsTold_77 : decode cX5_isAsTold 77 = .ok (.if_icmp .ne 7, 3) := by decide +kernel
set_option maxRecDepth 20000 in
theorem dX5_isAsTold_80 : decode cX5_isAsTold 80 = .ok (.iconst 1, 1) := by decide +kernel
set_option maxRecDepth 20000 in
theorem dX5_isAsTold_81 : decode cX5_isAsTold 81 = .ok (.goto 4, 3) := by decide +kernel
set_option maxRecDepth 20000 in
theorem dX5_isAsTold_84 : decode cX5_isAsTold 84 = .ok (.iconst 0, 1) := by decide +kernel
set_option maxRecDepth 20000 in
theorem dX5_isAsTold_85 : decode cX5_isAsTold 85 = .ok (.istore_n 2, 1) := by decide +kernel
set_option maxRecDepth 20000 in
theorem dX5_isAsTold_86 : decode cX5_isAsTold 86 = .ok (.iinc 3 1, 3) := by decide +kernel
set_option maxRecDepth 20000 in
theorem dX5_isAsTold_89 : decode cX5_isAsTold 89 = .ok (.goto (-85), 3) := by decide +kernel
set_option maxRecDepth 20000 in
theorem dX5_isAsTold_92 : decode cX5_isAsTold 92 = .ok (.iload_n 2, 1) := by decide +kernel
set_option maxRecDepth 20000 in
theorem dX5_isAsTold_93 : decode cX5_isAsTold 93 = .ok (.ireturn, 1) := by decide +kernel
set_option maxRecDepth 20000 in
theorem dX5_learnt_0 : decode cX5_learnt 0 = .ok (.iload_n 1, 1) := by decide +kernel
set_option maxRecDepth 20000 in
theorem dX5_learnt_1 : decode cX5_learnt 1 = .ok (.iconst 0, 1) := by decide +kernel
set_option maxRecDepth 20000 in
theorem dX5_learnt_2 : decode cX5_learnt 2 = .ok (.iconst 4, 1) := by decide +kernel
set_option maxRecDepth 20000 in
theorem dX5_learnt_3 : decode cX5_learnt 3 = .ok (.invokestatic 52, 3) := by decide +kernel
set_option maxRecDepth 20000 in
theorem dX5_learnt_6 : decode cX5_learnt 6 = .ok (.ifCond .ne 5, 3) := by decide +kernel
set_option maxRecDepth 20000 in
theorem dX5_learnt_9 : decode cX5_learnt 9 = .ok (.iconst (-1), 1) := by decide +kernel
set_option maxRecDepth 20000 in
theorem dX5_learnt_10 : decode cX5_learnt 10 = .ok (.ireturn, 1) := by decide +kernel
set_option maxRecDepth 20000 in
theorem dX5_learnt_11 : decode cX5_learnt 11 = .ok (.iconst 0, 1) := by decide +kernel
set_option maxRecDepth 20000 in
theorem dX5_learnt_12 : decode cX5_learnt 12 = .ok (.istore_n 2, 1) := by decide +kernel
set_option maxRecDepth 20000 in
theorem dX5_learnt_13 : decode cX5_learnt 13 = .ok (.bipush (-9), 2) := by decide +kernel
set_option maxRecDepth 20000 in
theorem dX5_learnt_15 : decode cX5_learnt 15 = .ok (.istore_n 3, 1) := by decide +kernel
set_option maxRecDepth 20000 in
theorem dX5_learnt_16 : decode cX5_learnt 16 = .ok (.iconst 0, 1) := by decide +kernel
set_option maxRecDepth 20000 in
theorem dX5_learnt_17 : decode cX5_learnt 17 = .ok (.istore 4, 2) := by decide +kernel
set_option maxRecDepth 20000 in
theorem dX5_learnt_19 : decode cX5_learnt 19 = .ok (.iload 4, 2) := by decide +kernel
set_option maxRecDepth 20000 in
theorem dX5_learnt_21 : decode cX5_learnt 21 = .ok (.sipush 3240, 3) := by decide +kernel
set_option maxRecDepth 20000 in
theorem dX5_learnt_24 : decode cX5_learnt 24 = .ok (.if_icmp .ge 32, 3) := by decide +kernel
set_option maxRecDepth 20000 in
theorem dX5_learnt_27 : decode cX5_learnt 27 = .ok (.aload_n 0, 1) := by decide +kernel
set_option maxRecDepth 20000 in
theorem dX5_learnt_28 : decode cX5_learnt 28 = .ok (.iload 4, 2) := by decide +kernel
set_option maxRecDepth 20000 in
theorem dX5_learnt_30 : decode cX5_learnt 30 = .ok (.invokevirtual 170, 3) := by decide +kernel
set_option maxRecDepth 20000 in
theorem dX5_learnt_33 : decode cX5_learnt 33 = .ok (.ifCond .eq 17, 3) := by decide +kernel
set_option maxRecDepth 20000 in
theorem dX5_learnt_36 : decode cX5_learnt 36 = .ok (.iload_n 2, 1) := by decide +kernel
set_option maxRecDepth 20000 in
theorem dX5_learnt_37 : decode cX5_learnt 37 = .ok (.ifCond .ne 8, 3) := by decide +kernel
set_option maxRecDepth 20000 in
theorem dX5_learnt_40 : decode cX5_learnt 40 = .ok (.iload 4, 2) := by decide +kernel
set_option maxRecDepth 20000 in
theorem dX5_learnt_42 : decode cX5_learnt 42 = .ok (.goto 4, 3) := by decide +kernel
set_option maxRecDepth 20000 in
theorem dX5_learnt_45 : decode cX5_learnt 45 = .ok (.iload_n 3, 1) := by decide +kernel
set_option maxRecDepth 20000 in
theorem dX5_learnt_46 : decode cX5_learnt 46 = .ok (.istore_n 3, 1) := by decide +kernel
set_option maxRecDepth 20000 in
theorem dX5_learnt_47 : decode cX5_learnt 47 = .ok (.iinc 2 1, 3) := by decide +kernel
set_option maxRecDepth 20000 in
theorem dX5_learnt_50 : decode cX5_learnt 50 = .ok (.iinc 4 1, 3) := by decide +kernel
set_option maxRecDepth 20000 in
theorem dX5_learnt_53 : decode cX5_learnt 53 = .ok (.goto (-34), 3) := by decide +kernel
set_option maxRecDepth 20000 in
theorem dX5_learnt_56 : decode cX5_learnt 56 = .ok (.iload_n 1, 1) := by decide +kernel
set_option maxRecDepth 20000 in
theorem dX5_learnt_57 : decode cX5_learnt 57 = .ok (.ifCond .eq 9, 3) := by decide +kernel
set_option maxRecDepth 20000 in
theorem dX5_learnt_60 : decode cX5_learnt 60 = .ok (.iload_n 3, 1) := by decide +kernel
set_option maxRecDepth 20000 in
theorem dX5_learnt_61 : decode cX5_learnt 61 = .ok (.bipush (-9), 2) := by decide +kernel
set_option maxRecDepth 20000 in
theorem dX5_learnt_63 : decode cX5_learnt 63 = .ok (.if_icmp .ne 14, 3) := by decide +kernel
set_option maxRecDepth 20000 in
theorem dX5_learnt_66 : decode cX5_learnt 66 = .ok (.iload_n 1, 1) := by decide +kernel
set_option maxRecDepth 20000 in
theorem dX5_learnt_67 : decode cX5_learnt 67 = .ok (.ifCond .ne 7, 3) := by decide +kernel
set_option maxRecDepth 20000 in
theorem dX5_learnt_70 : decode cX5_learnt 70 = .ok (.iload_n 2, 1) := by decide +kernel
set_option maxRecDepth 20000 in
theorem dX5_learnt_71 : decode cX5_learnt 71 = .ok (.goto 5, 3) := by decide +kernel
set_option maxRecDepth 20000 in
theorem dX5_learnt_74 : decode cX5_learnt 74 = .ok (.bipush (-9), 2) := by decide +kernel
set_option maxRecDepth 20000 in
theorem dX5_learnt_76 : decode cX5_learnt 76 = .ok (.ireturn, 1) := by decide +kernel
set_option maxRecDepth 20000 in
theorem dX5_learnt_77 : decode cX5_learnt 77 = .ok (.iload_n 1, 1) := by decide +kernel
set_option maxRecDepth 20000 in
theorem dX5_learnt_78 : decode cX5_learnt 78 = .ok (.iconst 1, 1) := by decide +kernel
set_option maxRecDepth 20000 in
theorem dX5_learnt_79 : decode cX5_learnt 79 = .ok (.if_icmp .ne 10, 3) := by decide +kernel
set_option maxRecDepth 20000 in
theorem dX5_learnt_82 : decode cX5_learnt 82 = .ok (.iload_n 3, 1) := by decide +kernel
set_option maxRecDepth 20000 in
theorem dX5_learnt_83 : decode cX5_learnt 83 = .ok (.invokestatic 157, 3) := by decide +kernel
set_option maxRecDepth 20000 in
theorem dX5_learnt_86 : decode cX5_learnt 86 = .ok (.goto 31, 3) := by decide +kernel
set_option maxRecDepth 20000 in
theorem dX5_learnt_89 : decode cX5_learnt 89 = .ok (.iload_n 1, 1) := by decide +kernel
set_option maxRecDepth 20000 in
theorem dX5_learnt_90 : decode cX5_learnt 90 = .ok (.iconst 2, 1) := by decide +kernel
set_option maxRecDepth 20000 in
theorem dX5_learnt_91 : decode cX5_learnt 91 = .ok (.if_icmp .ne 10, 3) := by decide +kernel
set_option maxRecDepth 20000 in
theorem dX5_learnt_94 : decode cX5_learnt 94 = .ok (.iload_n 3, 1) := by decide +kernel
set_option maxRecDepth 20000 in
theorem dX5_learnt_95 : decode cX5_learnt 95 = .ok (.invokestatic 161, 3) := by decide +kernel
set_option maxRecDepth 20000 in
theorem dX5_learnt_98 : decode cX5_learnt 98 = .ok (.goto 19, 3) := by decide +kernel
set_option maxRecDepth 20000 in
theorem dX5_learnt_101 : decode cX5_learnt 101 = .ok (.iload_n 1, 1) := by decide +kernel
set_option maxRecDepth 20000 in
theorem dX5_learnt_102 : decode cX5_learnt 102 = .ok (.iconst 3, 1) := by decide +kernel
set_option maxRecDepth 20000 in
theorem dX5_learnt_103 : decode cX5_learnt 103 = .ok (.if_icmp .ne 10, 3) := by decide +kernel
set_option maxRecDepth 20000 in
theorem dX5_learnt_106 : decode cX5_learnt 106 = .ok (.iload_n 3, 1) := by decide +kernel
set_option maxRecDepth 20000 in
theorem dX5_learnt_107 : decode cX5_learnt 107 = .ok (.invokestatic 164, 3) := by decide +kernel
set_option maxRecDepth 20000 in
theorem dX5_learnt_110 : decode cX5_learnt 110 = .ok (.goto 7, 3) := by decide +kernel
set_option maxRecDepth 20000 in
theorem dX5_learnt_113 : decode cX5_learnt 113 = .ok (.iload_n 3, 1) := by decide +kernel
set_option maxRecDepth 20000 in
theorem dX5_learnt_114 : decode cX5_learnt 114 = .ok (.invokestatic 167, 3) := by decide +kernel
set_option maxRecDepth 20000 in
theorem dX5_learnt_117 : decode cX5_learnt 117 = .ok (.ireturn, 1) := by decide +kernel
set_option maxRecDepth 20000 in
theorem dX5_may_0 : decode cX5_may 0 = .ok (.iload_n 1, 1) := by decide +kernel
set_option maxRecDepth 20000 in
theorem dX5_may_1 : decode cX5_may 1 = .ok (.iload_n 2, 1) := by decide +kernel
set_option maxRecDepth 20000 in
theorem dX5_may_2 : decode cX5_may 2 = .ok (.iload_n 3, 1) := by decide +kernel
set_option maxRecDepth 20000 in
theorem dX5_may_3 : decode cX5_may 3 = .ok (.invokestatic 154, 3) := by decide +kernel
set_option maxRecDepth 20000 in
theorem dX5_may_6 : decode cX5_may 6 = .ok (.ifCond .eq 13, 3) := by decide +kernel
set_option maxRecDepth 20000 in
theorem dX5_may_9 : decode cX5_may 9 = .ok (.iload 4, 2) := by decide +kernel
set_option maxRecDepth 20000 in
theorem dX5_may_11 : decode cX5_may 11 = .ok (.iconst 0, 1) := by decide +kernel
set_option maxRecDepth 20000 in
theorem dX5_may_12 : decode cX5_may 12 = .ok (.iconst 1, 1) := by decide +kernel
set_option maxRecDepth 20000 in
theorem dX5_may_13 : decode cX5_may 13 = .ok (.invokestatic 52, 3) := by decide +kernel
set_option maxRecDepth 20000 in
theorem dX5_may_16 : decode cX5_may 16 = .ok (.ifCond .ne 5, 3) := by decide +kernel
set_option maxRecDepth 20000 in
theorem dX5_may_19 : decode cX5_may 19 = .ok (.iconst (-1), 1) := by decide +kernel
set_option maxRecDepth 20000 in
theorem dX5_may_20 : decode cX5_may 20 = .ok (.ireturn, 1) := by decide +kernel
set_option maxRecDepth 20000 in
theorem dX5_may_21 : decode cX5_may 21 = .ok (.bipush (-9), 2) := by decide +kernel
set_option maxRecDepth 20000 in
theorem dX5_may_23 : decode cX5_may 23 = .ok (.istore 5, 2) := by decide +kernel
set_option maxRecDepth 20000 in
theorem dX5_may_25 : decode cX5_may 25 = .ok (.bipush (-9), 2) := by decide +kernel
set_option maxRecDepth 20000 in
theorem dX5_may_27 : decode cX5_may 27 = .ok (.istore 6, 2) := by decide +kernel
set_option maxRecDepth 20000 in
theorem dX5_may_29 : decode cX5_may 29 = .ok (.iconst 0, 1) := by decide +kernel
set_option maxRecDepth 20000 in
theorem dX5_may_30 : decode cX5_may 30 = .ok (.istore 7, 2) := by decide +kernel
set_option maxRecDepth 20000 in
theorem dX5_may_32 : decode cX5_may 32 = .ok (.iload 7, 2) := by decide +kernel
set_option maxRecDepth 20000 in
theorem dX5_may_34 : decode cX5_may 34 = .ok (.sipush 3240, 3) := by decide +kernel
set_option maxRecDepth 20000 in
theorem dX5_may_37 : decode cX5_may 37 = .ok (.if_icmp .ge 85, 3) := by decide +kernel
set_option maxRecDepth 20000 in
theorem dX5_may_40 : decode cX5_may 40 = .ok (.aload_n 0, 1) := by decide +kernel
set_option maxRecDepth 20000 in
theorem dX5_may_41 : decode cX5_may 41 = .ok (.iload 7, 2) := by decide +kernel
set_option maxRecDepth 20000 in
theorem dX5_may_43 : decode cX5_may 43 = .ok (.invokevirtual 170, 3) := by decide +kernel
set_option maxRecDepth 20000 in
theorem dX5_may_46 : decode cX5_may 46 = .ok (.ifCond .eq 70, 3) := by decide +kernel
set_option maxRecDepth 20000 in
theorem dX5_may_49 : decode cX5_may 49 = .ok (.iload 7, 2) := by decide +kernel
set_option maxRecDepth 20000 in
theorem dX5_may_51 : decode cX5_may 51 = .ok (.invokestatic 157, 3) := by decide +kernel
set_option maxRecDepth 20000 in
theorem dX5_may_54 : decode cX5_may 54 = .ok (.iload 7, 2) := by decide +kernel
set_option maxRecDepth 20000 in
theorem dX5_may_56 : decode cX5_may 56 = .ok (.invokestatic 161, 3) := by decide +kernel
set_option maxRecDepth 20000 in
theorem dX5_may_59 : decode cX5_may 59 = .ok (.iload 7, 2) := by decide +kernel
set_option maxRecDepth 20000 in
theorem dX5_may_61 : decode cX5_may 61 = .ok (.invokestatic 164, 3) := by decide +kernel
set_option maxRecDepth 20000 in
theorem dX5_may_64 : decode cX5_may 64 = .ok (.iload 7, 2) := by decide +kernel
set_option maxRecDepth 20000 in
theorem dX5_may_66 : decode cX5_may 66 = .ok (.invokestatic 167, 3) := by decide +kernel
set_option maxRecDepth 20000 in
theorem dX5_may_69 : decode cX5_may 69 = .ok (.iload_n 1, 1) := by decide +kernel
set_option maxRecDepth 20000 in
theorem dX5_may_70 : decode cX5_may 70 = .ok (.iload_n 2, 1) := by decide +kernel
set_option maxRecDepth 20000 in
theorem dX5_may_71 : decode cX5_may 71 = .ok (.iload_n 3, 1) := by decide +kernel
set_option maxRecDepth 20000 in
theorem dX5_may_72 : decode cX5_may 72 = .ok (.invokestatic 101, 3) := by decide +kernel
set_option maxRecDepth 20000 in
theorem dX5_may_75 : decode cX5_may 75 = .ok (.istore 8, 2) := by decide +kernel
set_option maxRecDepth 20000 in
theorem dX5_may_77 : decode cX5_may 77 = .ok (.iload 5, 2) := by decide +kernel
set_option maxRecDepth 20000 in
theorem dX5_may_79 : decode cX5_may 79 = .ok (.bipush (-9), 2) := by decide +kernel
set_option maxRecDepth 20000 in
theorem dX5_may_81 : decode cX5_may 81 = .ok (.if_icmp .eq 10, 3) := by decide +kernel
set_option maxRecDepth 20000 in
theorem dX5_may_84 : decode cX5_may 84 = .ok (.iload 8, 2) := by decide +kernel
set_option maxRecDepth 20000 in
theorem dX5_may_86 : decode cX5_may 86 = .ok (.iload 5, 2) := by decide +kernel
set_option maxRecDepth 20000 in
theorem dX5_may_88 : decode cX5_may 88 = .ok (.if_icmp .ge 8, 3) := by decide +kernel
set_option maxRecDepth 20000 in
theorem dX5_may_91 : decode cX5_may 91 = .ok (.iload 8, 2) := by decide +kernel
set_option maxRecDepth 20000 in
theorem dX5_may_93 : decode cX5_may 93 = .ok (.goto 5, 3) := by decide +kernel
set_option maxRecDepth 20000 in
theorem dX5_may_96 : decode cX5_may 96 = .ok (.iload 5, 2) := by decide +kernel
set_option maxRecDepth 20000 in
theorem dX5_may_98 : decode cX5_may 98 = .ok (.istore 5, 2) := by decide +kernel
set_option maxRecDepth 20000 in
theorem dX5_may_100 : decode cX5_may 100 = .ok (.iload 8, 2) := by decide +kernel
set_option maxRecDepth 20000 in
theorem dX5_may_102 : decode cX5_may 102 = .ok (.iload 6, 2) := by decide +kernel
set_option maxRecDepth 20000 in
theorem dX5_may_104 : decode cX5_may 104 = .ok (.if_icmp .le 8, 3) := by decide +kernel
set_option maxRecDepth 20000 in
theorem dX5_may_107 : decode cX5_may 107 = .ok (.iload 8, 2) := by decide +kernel
set_option maxRecDepth 20000 in
theorem dX5_may_109 : decode cX5_may 109 = .ok (.goto 5, 3) := by decide +kernel
set_option maxRecDepth 20000 in
theorem dX5_may_112 : decode cX5_may 112 = .ok (.iload 6, 2) := by decide +kernel
set_option maxRecDepth 20000 in
theorem dX5_may_114 : decode cX5_may 114 = .ok (.istore 6, 2) := by decide +kernel
set_option maxRecDepth 20000 in
theorem dX5_may_116 : decode cX5_may 116 = .ok (.iinc 7 1, 3) := by decide +kernel
set_option maxRecDepth 20000 in
theorem dX5_may_119 : decode cX5_may 119 = .ok (.goto (-87), 3) := by decide +kernel
set_option maxRecDepth 20000 in
theorem dX5_may_122 : decode cX5_may 122 = .ok (.iload 4, 2) := by decide +kernel
set_option maxRecDepth 20000 in
theorem dX5_may_124 : decode cX5_may 124 = .ok (.ifCond .ne 8, 3) := by decide +kernel
set_option maxRecDepth 20000 in
theorem dX5_may_127 : decode cX5_may 127 = .ok (.iload 5, 2) := by decide +kernel
set_option maxRecDepth 20000 in
theorem dX5_may_129 : decode cX5_may 129 = .ok (.goto 5, 3) := by decide +kernel
set_option maxRecDepth 20000 in
theorem dX5_may_132 : decode cX5_may 132 = .ok (.iload 6, 2) := by decide +kernel
set_option maxRecDepth 20000 in
theorem dX5_may_134 : decode cX5_may 134 = .ok (.ireturn, 1) := by decide +kernel
set_option maxRecDepth 20000 in
theorem dX5_bribed_0 : decode cX5_bribed 0 = .ok (.iconst 0, 1) := by decide +kernel
set_option maxRecDepth 20000 in
theorem dX5_bribed_1 : decode cX5_bribed 1 = .ok (.istore_n 1, 1) := by decide +kernel
set_option maxRecDepth 20000 in
theorem dX5_bribed_2 : decode cX5_bribed 2 = .ok (.iconst 0, 1) := by decide +kernel
set_option maxRecDepth 20000 in
theorem dX5_bribed_3 : decode cX5_bribed 3 = .ok (.istore_n 2, 1) := by decide +kernel
set_option maxRecDepth 20000 in
theorem dX5_bribed_4 : decode cX5_bribed 4 = .ok (.iload_n 2, 1) := by decide +kernel
set_option maxRecDepth 20000 in
theorem dX5_bribed_5 : decode cX5_bribed 5 = .ok (.aload_n 0, 1) := by decide +kernel
set_option maxRecDepth 20000 in
theorem dX5_bribed_6 : decode cX5_bribed 6 = .ok (.getfield 38, 3) := by decide +kernel
set_option maxRecDepth 20000 in
theorem dX5_bribed_9 : decode cX5_bribed 9 = .ok (.bipush 7, 2) := by decide +kernel
set_option maxRecDepth 20000 in
theorem dX5_bribed_11 : decode cX5_bribed 11 = .ok (.iaload, 1) := by decide +kernel
set_option maxRecDepth 20000 in
theorem dX5_bribed_12 : decode cX5_bribed 12 = .ok (.if_icmp .ge 106, 3) := by decide +kernel
set_option maxRecDepth 20000 in
theorem dX5_bribed_15 : decode cX5_bribed 15 = .ok (.bipush 8, 2) := by decide +kernel
set_option maxRecDepth 20000 in
theorem dX5_bribed_17 : decode cX5_bribed 17 = .ok (.bipush 6, 2) := by decide +kernel
set_option maxRecDepth 20000 in
theorem dX5_bribed_19 : decode cX5_bribed 19 = .ok (.iload_n 2, 1) := by decide +kernel
set_option maxRecDepth 20000 in
theorem dX5_bribed_20 : decode cX5_bribed 20 = .ok (.imul, 1) := by decide +kernel
set_option maxRecDepth 20000 in
theorem dX5_bribed_21 : decode cX5_bribed 21 = .ok (.iadd, 1) := by decide +kernel
set_option maxRecDepth 20000 in
theorem dX5_bribed_22 : decode cX5_bribed 22 = .ok (.istore_n 3, 1) := by decide +kernel
set_option maxRecDepth 20000 in
theorem dX5_bribed_23 : decode cX5_bribed 23 = .ok (.aload_n 0, 1) := by decide +kernel
set_option maxRecDepth 20000 in
theorem dX5_bribed_24 : decode cX5_bribed 24 = .ok (.getfield 38, 3) := by decide +kernel
set_option maxRecDepth 20000 in
theorem dX5_bribed_27 : decode cX5_bribed 27 = .ok (.iload_n 3, 1) := by decide +kernel
set_option maxRecDepth 20000 in
theorem dX5_bribed_28 : decode cX5_bribed 28 = .ok (.iconst 5, 1) := by decide +kernel
set_option maxRecDepth 20000 in
theorem dX5_bribed_29 : decode cX5_bribed 29 = .ok (.iadd, 1) := by decide +kernel
set_option maxRecDepth 20000 in
theorem dX5_bribed_30 : decode cX5_bribed 30 = .ok (.iaload, 1) := by decide +kernel
set_option maxRecDepth 20000 in
theorem dX5_bribed_31 : decode cX5_bribed 31 = .ok (.iconst 1, 1) := by decide +kernel
set_option maxRecDepth 20000 in
theorem dX5_bribed_32 : decode cX5_bribed 32 = .ok (.if_icmp .ne 57, 3) := by decide +kernel
set_option maxRecDepth 20000 in
theorem dX5_bribed_35 : decode cX5_bribed 35 = .ok (.aload_n 0, 1) := by decide +kernel
set_option maxRecDepth 20000 in
theorem dX5_bribed_36 : decode cX5_bribed 36 = .ok (.aload_n 0, 1) := by decide +kernel
set_option maxRecDepth 20000 in
theorem dX5_bribed_37 : decode cX5_bribed 37 = .ok (.getfield 38, 3) := by decide +kernel
set_option maxRecDepth 20000 in
theorem dX5_bribed_40 : decode cX5_bribed 40 = .ok (.iload_n 3, 1) := by decide +kernel
set_option maxRecDepth 20000 in
theorem dX5_bribed_41 : decode cX5_bribed 41 = .ok (.iaload, 1) := by decide +kernel
set_option maxRecDepth 20000 in
theorem dX5_bribed_42 : decode cX5_bribed 42 = .ok (.aload_n 0, 1) := by decide +kernel
set_option maxRecDepth 20000 in
theorem dX5_bribed_43 : decode cX5_bribed 43 = .ok (.getfield 17, 3) := by decide +kernel
set_option maxRecDepth 20000 in
theorem dX5_bribed_46 : decode cX5_bribed 46 = .ok (.aload_n 0, 1) := by decide +kernel
set_option maxRecDepth 20000 in
theorem dX5_bribed_47 : decode cX5_bribed 47 = .ok (.getfield 38, 3) := by decide +kernel
set_option maxRecDepth 20000 in
theorem dX5_bribed_50 : decode cX5_bribed 50 = .ok (.iload_n 3, 1) := by decide +kernel
set_option maxRecDepth 20000 in
theorem dX5_bribed_51 : decode cX5_bribed 51 = .ok (.iconst 3, 1) := by decide +kernel
set_option maxRecDepth 20000 in
theorem dX5_bribed_52 : decode cX5_bribed 52 = .ok (.iadd, 1) := by decide +kernel
set_option maxRecDepth 20000 in
theorem dX5_bribed_53 : decode cX5_bribed 53 = .ok (.iaload, 1) := by decide +kernel
set_option maxRecDepth 20000 in
theorem dX5_bribed_54 : decode cX5_bribed 54 = .ok (.iaload, 1) := by decide +kernel
set_option maxRecDepth 20000 in
theorem dX5_bribed_55 : decode cX5_bribed 55 = .ok (.aload_n 0, 1) := by decide +kernel
set_option maxRecDepth 20000 in
theorem dX5_bribed_56 : decode cX5_bribed 56 = .ok (.getfield 38, 3) := by decide +kernel
set_option maxRecDepth 20000 in
theorem dX5_bribed_59 : decode cX5_bribed 59 = .ok (.iload_n 3, 1) := by decide +kernel
set_option maxRecDepth 20000 in
theorem dX5_bribed_60 : decode cX5_bribed 60 = .ok (.iconst 1, 1) := by decide +kernel
set_option maxRecDepth 20000 in
theorem dX5_bribed_61 : decode cX5_bribed 61 = .ok (.iadd, 1) := by decide +kernel
set_option maxRecDepth 20000 in
theorem dX5_bribed_62 : decode cX5_bribed 62 = .ok (.iaload, 1) := by decide +kernel
set_option maxRecDepth 20000 in
theorem dX5_bribed_63 : decode cX5_bribed 63 = .ok (.aload_n 0, 1) := by decide +kernel
set_option maxRecDepth 20000 in
theorem dX5_bribed_64 : decode cX5_bribed 64 = .ok (.getfield 38, 3) := by decide +kernel
set_option maxRecDepth 20000 in
theorem dX5_bribed_67 : decode cX5_bribed 67 = .ok (.iload_n 3, 1) := by decide +kernel
set_option maxRecDepth 20000 in
theorem dX5_bribed_68 : decode cX5_bribed 68 = .ok (.iconst 2, 1) := by decide +kernel
set_option maxRecDepth 20000 in
theorem dX5_bribed_69 : decode cX5_bribed 69 = .ok (.iadd, 1) := by decide +kernel
set_option maxRecDepth 20000 in
theorem dX5_bribed_70 : decode cX5_bribed 70 = .ok (.iaload, 1) := by decide +kernel
set_option maxRecDepth 20000 in
theorem dX5_bribed_71 : decode cX5_bribed 71 = .ok (.invokevirtual 112, 3) := by decide +kernel
set_option maxRecDepth 20000 in
theorem dX5_bribed_74 : decode cX5_bribed 74 = .ok (.aload_n 0, 1) := by decide +kernel
set_option maxRecDepth 20000 in
theorem dX5_bribed_75 : decode cX5_bribed 75 = .ok (.getfield 38, 3) := by decide +kernel
set_option maxRecDepth 20000 in
theorem dX5_bribed_78 : decode cX5_bribed 78 = .ok (.iload_n 3, 1) := by decide +kernel
set_option maxRecDepth 20000 in
theorem dX5_bribed_79 : decode cX5_bribed 79 = .ok (.iconst 4, 1) := by decide +kernel
set_option maxRecDepth 20000 in
theorem dX5_bribed_80 : decode cX5_bribed 80 = .ok (.iadd, 1) := by decide +kernel
set_option maxRecDepth 20000 in
theorem dX5_bribed_81 : decode cX5_bribed 81 = .ok (.iaload, 1) := by decide +kernel
set_option maxRecDepth 20000 in
theorem dX5_bribed_82 : decode cX5_bribed 82 = .ok (.if_icmp .eq 7, 3) := by decide +kernel
set_option maxRecDepth 20000 in
theorem dX5_bribed_85 : decode cX5_bribed 85 = .ok (.iconst 1, 1) := by decide +kernel
set_option maxRecDepth 20000 in
theorem dX5_bribed_86 : decode cX5_bribed 86 = .ok (.goto 4, 3) := by decide +kernel
set_option maxRecDepth 20000 in
theorem dX5_bribed_89 : decode cX5_bribed 89 = .ok (.iconst 0, 1) := by decide +kernel
set_option maxRecDepth 20000 in
theorem dX5_bribed_90 : decode cX5_bribed 90 = .ok (.istore 4, 2) := by decide +kernel
set_option maxRecDepth 20000 in
theorem dX5_bribed_92 : decode cX5_bribed 92 = .ok (.iload_n 1, 1) := by decide +kernel
set_option maxRecDepth 20000 in
theorem dX5_bribed_93 : decode cX5_bribed 93 = .ok (.iload 4, 2) := by decide +kernel
set_option maxRecDepth 20000 in
theorem dX5_bribed_95 : decode cX5_bribed 95 = .ok (.ifCond .eq 14, 3) := by decide +kernel
set_option maxRecDepth 20000 in
theorem dX5_bribed_98 : decode cX5_bribed 98 = .ok (.iconst 1, 1) := by decide +kernel
set_option maxRecDepth 20000 in
theorem dX5_bribed_99 : decode cX5_bribed 99 = .ok (.aload_n 0, 1) := by decide +kernel
set_option maxRecDepth 20000 in
theorem dX5_bribed_100 : decode cX5_bribed 100 = .ok (.getfield 38, 3) := by decide +kernel
set_option maxRecDepth 20000 in
theorem dX5_bribed_103 : decode cX5_bribed 103 = .ok (.iload_n 3, 1) := by decide +kernel
set_option maxRecDepth 20000 in
theorem dX5_bribed_104 : decode cX5_bribed 104 = .ok (.iaload, 1) := by decide +kernel
set_option maxRecDepth 20000 in
theorem dX5_bribed_105 : decode cX5_bribed 105 = .ok (.ishl, 1) := by decide +kernel
set_option maxRecDepth 20000 in
theorem dX5_bribed_106 : decode cX5_bribed 106 = .ok (.goto 4, 3) := by decide +kernel
set_option maxRecDepth 20000 in
theorem dX5_bribed_109 : decode cX5_bribed 109 = .ok (.iconst 0, 1) := by decide +kernel
set_option maxRecDepth 20000 in
theorem dX5_bribed_110 : decode cX5_bribed 110 = .ok (.ior, 1) := by decide +kernel
set_option maxRecDepth 20000 in
theorem dX5_bribed_111 : decode cX5_bribed 111 = .ok (.istore_n 1, 1) := by decide +kernel
set_option maxRecDepth 20000 in
theorem dX5_bribed_112 : decode cX5_bribed 112 = .ok (.iinc 2 1, 3) := by decide +kernel
set_option maxRecDepth 20000 in
theorem dX5_bribed_115 : decode cX5_bribed 115 = .ok (.goto (-111), 3) := by decide +kernel
set_option maxRecDepth 20000 in
theorem dX5_bribed_118 : decode cX5_bribed 118 = .ok (.iload_n 1, 1) := by decide +kernel
set_option maxRecDepth 20000 in
theorem dX5_bribed_119 : decode cX5_bribed 119 = .ok (.ireturn, 1) := by decide +kernel
set_option maxRecDepth 20000 in
theorem dX5_memory_0 : decode cX5_memory 0 = .ok (.aload_n 0, 1) := by decide +kernel
set_option maxRecDepth 20000 in
theorem dX5_memory_1 : decode cX5_memory 1 = .ok (.iload_n 1, 1) := by decide +kernel
set_option maxRecDepth 20000 in
theorem dX5_memory_2 : decode cX5_memory 2 = .ok (.invokevirtual 109, 3) := by decide +kernel
set_option maxRecDepth 20000 in
theorem dX5_memory_5 : decode cX5_memory 5 = .ok (.ifCond .eq 34, 3) := by decide +kernel
set_option maxRecDepth 20000 in
theorem dX5_memory_8 : decode cX5_memory 8 = .ok (.iload_n 2, 1) := by decide +kernel
set_option maxRecDepth 20000 in
theorem dX5_memory_9 : decode cX5_memory 9 = .ok (.iconst 0, 1) := by decide +kernel
set_option maxRecDepth 20000 in
theorem dX5_memory_10 : decode cX5_memory 10 = .ok (.sipush 999, 3) := by decide +kernel
set_option maxRecDepth 20000 in
theorem dX5_memory_13 : decode cX5_memory 13 = .ok (.invokestatic 52, 3) := by decide +kernel
set_option maxRecDepth 20000 in
theorem dX5_memory_16 : decode cX5_memory 16 = .ok (.ifCond .eq 23, 3) := by decide +kernel
set_option maxRecDepth 20000 in
theorem dX5_memory_19 : decode cX5_memory 19 = .ok (.iload_n 3, 1) := by decide +kernel
set_option maxRecDepth 20000 in
theorem dX5_memory_20 : decode cX5_memory 20 = .ok (.iconst 0, 1) := by decide +kernel
set_option maxRecDepth 20000 in
theorem dX5_memory_21 : decode cX5_memory 21 = .ok (.bipush 20, 2) := by decide +kernel
set_option maxRecDepth 20000 in
theorem dX5_memory_23 : decode cX5_memory 23 = .ok (.invokestatic 52, 3) := by decide +kernel
set_option maxRecDepth 20000 in
theorem dX5_memory_26 : decode cX5_memory 26 = .ok (.ifCond .eq 13, 3) := by decide +kernel
set_option maxRecDepth 20000 in
theorem dX5_memory_29 : decode cX5_memory 29 = .ok (.iload 4, 2) := by decide +kernel
set_option maxRecDepth 20000 in
theorem dX5_memory_31 : decode cX5_memory 31 = .ok (.iconst 0, 1) := by decide +kernel
set_option maxRecDepth 20000 in
theorem dX5_memory_32 : decode cX5_memory 32 = .ok (.iconst 1, 1) := by decide +kernel
set_option maxRecDepth 20000 in
theorem dX5_memory_33 : decode cX5_memory 33 = .ok (.invokestatic 52, 3) := by decide +kernel
set_option maxRecDepth 20000 in
theorem dX5_memory_36 : decode cX5_memory 36 = .ok (.ifCond .ne 5, 3) := by decide +kernel
set_option maxRecDepth 20000 in
theorem dX5_memory_39 : decode cX5_memory 39 = .ok (.iconst (-1), 1) := by decide +kernel
set_option maxRecDepth 20000 in
theorem dX5_memory_40 : decode cX5_memory 40 = .ok (.ireturn, 1) := by decide +kernel
set_option maxRecDepth 20000 in
theorem dX5_memory_41 : decode cX5_memory 41 = .ok (.bipush (-9), 2) := by decide +kernel
set_option maxRecDepth 20000 in
theorem dX5_memory_43 : decode cX5_memory 43 = .ok (.istore 5, 2) := by decide +kernel
set_option maxRecDepth 20000 in
theorem dX5_memory_45 : decode cX5_memory 45 = .ok (.bipush (-9), 2) := by decide +kernel
set_option maxRecDepth 20000 in
theorem dX5_memory_47 : decode cX5_memory 47 = .ok (.istore 6, 2) := by decide +kernel
set_option maxRecDepth 20000 in
theorem dX5_memory_49 : decode cX5_memory 49 = .ok (.iconst 0, 1) := by decide +kernel
set_option maxRecDepth 20000 in
theorem dX5_memory_50 : decode cX5_memory 50 = .ok (.istore 7, 2) := by decide +kernel
set_option maxRecDepth 20000 in
theorem dX5_memory_52 : decode cX5_memory 52 = .ok (.iload 7, 2) := by decide +kernel
set_option maxRecDepth 20000 in
theorem dX5_memory_54 : decode cX5_memory 54 = .ok (.bipush 60, 2) := by decide +kernel
set_option maxRecDepth 20000 in
theorem dX5_memory_56 : decode cX5_memory 56 = .ok (.if_icmp .gt 62, 3) := by decide +kernel
set_option maxRecDepth 20000 in
theorem dX5_memory_59 : decode cX5_memory 59 = .ok (.aload_n 0, 1) := by decide +kernel
set_option maxRecDepth 20000 in
theorem dX5_memory_60 : decode cX5_memory 60 = .ok (.iload_n 1, 1) := by decide +kernel
set_option maxRecDepth 20000 in
theorem dX5_memory_61 : decode cX5_memory 61 = .ok (.iload 7, 2) := by decide +kernel
set_option maxRecDepth 20000 in
theorem dX5_memory_63 : decode cX5_memory 63 = .ok (.iconst 0, 1) := by decide +kernel
set_option maxRecDepth 20000 in
theorem dX5_memory_64 : decode cX5_memory 64 = .ok (.aload_n 0, 1) := by decide +kernel
set_option maxRecDepth 20000 in
theorem dX5_memory_65 : decode cX5_memory 65 = .ok (.getfield 38, 3) := by decide +kernel
set_option maxRecDepth 20000 in
theorem dX5_memory_68 : decode cX5_memory 68 = .ok (.bipush 6, 2) := by decide +kernel
set_option maxRecDepth 20000 in
theorem dX5_memory_70 : decode cX5_memory 70 = .ok (.iaload, 1) := by decide +kernel
set_option maxRecDepth 20000 in
theorem dX5_memory_71 : decode cX5_memory 71 = .ok (.invokevirtual 112, 3) := by decide +kernel
set_option maxRecDepth 20000 in
theorem dX5_memory_74 : decode cX5_memory 74 = .ok (.istore 8, 2) := by decide +kernel
set_option maxRecDepth 20000 in
theorem dX5_memory_76 : decode cX5_memory 76 = .ok (.iload 8, 2) := by decide +kernel
set_option maxRecDepth 20000 in
theorem dX5_memory_78 : decode cX5_memory 78 = .ok (.iload_n 2, 1) := by decide +kernel
set_option maxRecDepth 20000 in
theorem dX5_memory_79 : decode cX5_memory 79 = .ok (.iload_n 3, 1) := by decide +kernel
set_option maxRecDepth 20000 in
theorem dX5_memory_80 : decode cX5_memory 80 = .ok (.isub, 1) := by decide +kernel
set_option maxRecDepth 20000 in
theorem dX5_memory_81 : decode cX5_memory 81 = .ok (.if_icmp .lt 31, 3) := by decide +kernel
set_option maxRecDepth 20000 in
theorem dX5_memory_84 : decode cX5_memory 84 = .ok (.iload 8, 2) := by decide +kernel
set_option maxRecDepth 20000 in
theorem dX5_memory_86 : decode cX5_memory 86 = .ok (.iload_n 2, 1) := by decide +kernel
set_option maxRecDepth 20000 in
theorem dX5_memory_87 : decode cX5_memory 87 = .ok (.iload_n 3, 1) := by decide +kernel
set_option maxRecDepth 20000 in
theorem dX5_memory_88 : decode cX5_memory 88 = .ok (.iadd, 1) := by decide +kernel
set_option maxRecDepth 20000 in
theorem dX5_memory_89 : decode cX5_memory 89 = .ok (.if_icmp .gt 23, 3) := by decide +kernel
set_option maxRecDepth 20000 in
theorem dX5_memory_92 : decode cX5_memory 92 = .ok (.iload 5, 2) := by decide +kernel
set_option maxRecDepth 20000 in
theorem dX5_memory_94 : decode cX5_memory 94 = .ok (.bipush (-9), 2) := by decide +kernel
set_option maxRecDepth 20000 in
theorem dX5_memory_96 : decode cX5_memory 96 = .ok (.if_icmp .ne 8, 3) := by decide +kernel
set_option maxRecDepth 20000 in
theorem dX5_memory_99 : decode cX5_memory 99 = .ok (.iload 7, 2) := by decide +kernel
set_option maxRecDepth 20000 in
theorem dX5_memory_101 : decode cX5_memory 101 = .ok (.goto 5, 3) := by decide +kernel
set_option maxRecDepth 20000 in
theorem dX5_memory_104 : decode cX5_memory 104 = .ok (.iload 5, 2) := by decide +kernel
set_option maxRecDepth 20000 in
theorem dX5_memory_106 : decode cX5_memory 106 = .ok (.istore 5, 2) := by decide +kernel
set_option maxRecDepth 20000 in
theorem dX5_memory_108 : decode cX5_memory 108 = .ok (.iload 7, 2) := by decide +kernel
set_option maxRecDepth 20000 in
theorem dX5_memory_110 : decode cX5_memory 110 = .ok (.istore 6, 2) := by decide +kernel
set_option maxRecDepth 20000 in
theorem dX5_memory_112 : decode cX5_memory 112 = .ok (.iinc 7 1, 3) := by decide +kernel
set_option maxRecDepth 20000 in
theorem dX5_memory_115 : decode cX5_memory 115 = .ok (.goto (-63), 3) := by decide +kernel
set_option maxRecDepth 20000 in
theorem dX5_memory_118 : decode cX5_memory 118 = .ok (.iload 4, 2) := by decide +kernel
set_option maxRecDepth 20000 in
theorem dX5_memory_120 : decode cX5_memory 120 = .ok (.ifCond .ne 8, 3) := by decide +kernel
set_option maxRecDepth 20000 in
theorem dX5_memory_123 : decode cX5_memory 123 = .ok (.iload 5, 2) := by decide +kernel
set_option maxRecDepth 20000 in
theorem dX5_memory_125 : decode cX5_memory 125 = .ok (.goto 5, 3) := by decide +kernel
set_option maxRecDepth 20000 in
theorem dX5_memory_128 : decode cX5_memory 128 = .ok (.iload 6, 2) := by decide +kernel
set_option maxRecDepth 20000 in
theorem dX5_memory_130 : decode cX5_memory 130 = .ok (.ireturn, 1) := by decide +kernel
set_option maxRecDepth 20000 in
theorem dX5_mark_0 : decode cX5_mark 0 = .ok (.iload_n 1, 1) := by decide +kernel
set_option maxRecDepth 20000 in
theorem dX5_mark_1 : decode cX5_mark 1 = .ok (.iconst 0, 1) := by decide +kernel
set_option maxRecDepth 20000 in
theorem dX5_mark_2 : decode cX5_mark 2 = .ok (.iconst 5, 1) := by decide +kernel
set_option maxRecDepth 20000 in
theorem dX5_mark_3 : decode cX5_mark 3 = .ok (.invokestatic 52, 3) := by decide +kernel
set_option maxRecDepth 20000 in
theorem dX5_mark_6 : decode cX5_mark 6 = .ok (.ifCond .eq 11, 3) := by decide +kernel
set_option maxRecDepth 20000 in
theorem dX5_mark_9 : decode cX5_mark 9 = .ok (.aload_n 0, 1) := by decide +kernel
set_option maxRecDepth 20000 in
theorem dX5_mark_10 : decode cX5_mark 10 = .ok (.iload_n 2, 1) := by decide +kernel
set_option maxRecDepth 20000 in
theorem dX5_mark_11 : decode cX5_mark 11 = .ok (.invokevirtual 109, 3) := by decide +kernel
set_option maxRecDepth 20000 in
theorem dX5_mark_14 : decode cX5_mark 14 = .ok (.ifCond .ne 6, 3) := by decide +kernel
set_option maxRecDepth 20000 in
theorem dX5_mark_17 : decode cX5_mark 17 = .ok (.ldc 173, 2) := by decide +kernel
set_option maxRecDepth 20000 in
theorem dX5_mark_19 : decode cX5_mark 19 = .ok (.ireturn, 1) := by decide +kernel
set_option maxRecDepth 20000 in
theorem dX5_mark_20 : decode cX5_mark 20 = .ok (.iload_n 1, 1) := by decide +kernel
set_option maxRecDepth 20000 in
theorem dX5_mark_21 : decode cX5_mark 21 = .ok (.tableswitch 160 0 4 #[35, 52, 78, 104, 132], 35) := by decide +kernel
set_option maxRecDepth 20000 in
theorem dX5_mark_56 : decode cX5_mark 56 = .ok (.aload_n 0, 1) := by decide +kernel
set_option maxRecDepth 20000 in
theorem dX5_mark_57 : decode cX5_mark 57 = .ok (.dup, 1) := by decide +kernel
set_option maxRecDepth 20000 in
theorem dX5_mark_58 : decode cX5_mark 58 = .ok (.getfield 174, 3) := by decide +kernel
set_option maxRecDepth 20000 in
theorem dX5_mark_61 : decode cX5_mark 61 = .ok (.lconst 1, 1) := by decide +kernel
set_option maxRecDepth 20000 in
theorem dX5_mark_62 : decode cX5_mark 62 = .ok (.ladd, 1) := by decide +kernel
set_option maxRecDepth 20000 in
theorem dX5_mark_63 : decode cX5_mark 63 = .ok (.putfield 174, 3) := by decide +kernel
set_option maxRecDepth 20000 in
theorem dX5_mark_66 : decode cX5_mark 66 = .ok (.aload_n 0, 1) := by decide +kernel
set_option maxRecDepth 20000 in
theorem dX5_mark_67 : decode cX5_mark 67 = .ok (.getfield 23, 3) := by decide +kernel
set_option maxRecDepth 20000 in
theorem dX5_mark_70 : decode cX5_mark 70 = .ok (.iload_n 2, 1) := by decide +kernel
set_option maxRecDepth 20000 in
theorem dX5_mark_71 : decode cX5_mark 71 = .ok (.iaload, 1) := by decide +kernel
set_option maxRecDepth 20000 in
theorem dX5_mark_72 : decode cX5_mark 72 = .ok (.ireturn, 1) := by decide +kernel
set_option maxRecDepth 20000 in
theorem dX5_mark_73 : decode cX5_mark 73 = .ok (.aload_n 0, 1) := by decide +kernel
set_option maxRecDepth 20000 in
theorem dX5_mark_74 : decode cX5_mark 74 = .ok (.dup, 1) := by decide +kernel
set_option maxRecDepth 20000 in
theorem dX5_mark_75 : decode cX5_mark 75 = .ok (.getfield 174, 3) := by decide +kernel
set_option maxRecDepth 20000 in
theorem dX5_mark_78 : decode cX5_mark 78 = .ok (.ldc2_w 178, 3) := by decide +kernel
set_option maxRecDepth 20000 in
theorem dX5_mark_81 : decode cX5_mark 81 = .ok (.ladd, 1) := by decide +kernel
set_option maxRecDepth 20000 in
theorem dX5_mark_82 : decode cX5_mark 82 = .ok (.putfield 174, 3) := by decide +kernel
set_option maxRecDepth 20000 in
theorem dX5_mark_85 : decode cX5_mark 85 = .ok (.aload_n 0, 1) := by decide +kernel
set_option maxRecDepth 20000 in
theorem dX5_mark_86 : decode cX5_mark 86 = .ok (.getfield 23, 3) := by decide +kernel
set_option maxRecDepth 20000 in
theorem dX5_mark_89 : decode cX5_mark 89 = .ok (.iload_n 2, 1) := by decide +kernel
set_option maxRecDepth 20000 in
theorem dX5_mark_90 : decode cX5_mark 90 = .ok (.iaload, 1) := by decide +kernel
set_option maxRecDepth 20000 in
theorem dX5_mark_91 : decode cX5_mark 91 = .ok (.aload_n 0, 1) := by decide +kernel
set_option maxRecDepth 20000 in
theorem dX5_mark_92 : decode cX5_mark 92 = .ok (.getfield 38, 3) := by decide +kernel
set_option maxRecDepth 20000 in
theorem dX5_mark_95 : decode cX5_mark 95 = .ok (.iload_n 2, 1) := by decide +kernel
set_option maxRecDepth 20000 in
theorem dX5_mark_96 : decode cX5_mark 96 = .ok (.iaload, 1) := by decide +kernel
set_option maxRecDepth 20000 in
theorem dX5_mark_97 : decode cX5_mark 97 = .ok (.iadd, 1) := by decide +kernel
set_option maxRecDepth 20000 in
theorem dX5_mark_98 : decode cX5_mark 98 = .ok (.ireturn, 1) := by decide +kernel
set_option maxRecDepth 20000 in
theorem dX5_mark_99 : decode cX5_mark 99 = .ok (.aload_n 0, 1) := by decide +kernel
set_option maxRecDepth 20000 in
theorem dX5_mark_100 : decode cX5_mark 100 = .ok (.dup, 1) := by decide +kernel
set_option maxRecDepth 20000 in
theorem dX5_mark_101 : decode cX5_mark 101 = .ok (.getfield 174, 3) := by decide +kernel
set_option maxRecDepth 20000 in
theorem dX5_mark_104 : decode cX5_mark 104 = .ok (.ldc2_w 180, 3) := by decide +kernel
set_option maxRecDepth 20000 in
theorem dX5_mark_107 : decode cX5_mark 107 = .ok (.ladd, 1) := by decide +kernel
set_option maxRecDepth 20000 in
theorem dX5_mark_108 : decode cX5_mark 108 = .ok (.putfield 174, 3) := by decide +kernel
set_option maxRecDepth 20000 in
theorem dX5_mark_111 : decode cX5_mark 111 = .ok (.aload_n 0, 1) := by decide +kernel
set_option maxRecDepth 20000 in
theorem dX5_mark_112 : decode cX5_mark 112 = .ok (.getfield 23, 3) := by decide +kernel
set_option maxRecDepth 20000 in
theorem dX5_mark_115 : decode cX5_mark 115 = .ok (.iload_n 2, 1) := by decide +kernel
set_option maxRecDepth 20000 in
theorem dX5_mark_116 : decode cX5_mark 116 = .ok (.iaload, 1) := by decide +kernel
set_option maxRecDepth 20000 in
theorem dX5_mark_117 : decode cX5_mark 117 = .ok (.aload_n 0, 1) := by decide +kernel
set_option maxRecDepth 20000 in
theorem dX5_mark_118 : decode cX5_mark 118 = .ok (.getfield 32, 3) := by decide +kernel
set_option maxRecDepth 20000 in
theorem dX5_mark_121 : decode cX5_mark 121 = .ok (.iload_n 2, 1) := by decide +kernel
set_option maxRecDepth 20000 in
theorem dX5_mark_122 : decode cX5_mark 122 = .ok (.iaload, 1) := by decide +kernel
set_option maxRecDepth 20000 in
theorem dX5_mark_123 : decode cX5_mark 123 = .ok (.isub, 1) := by decide +kernel
set_option maxRecDepth 20000 in
theorem dX5_mark_124 : decode cX5_mark 124 = .ok (.ireturn, 1) := by decide +kernel
set_option maxRecDepth 20000 in
theorem dX5_mark_125 : decode cX5_mark 125 = .ok (.aload_n 0, 1) := by decide +kernel
set_option maxRecDepth 20000 in
theorem dX5_mark_126 : decode cX5_mark 126 = .ok (.dup, 1) := by decide +kernel
set_option maxRecDepth 20000 in
theorem dX5_mark_127 : decode cX5_mark 127 = .ok (.getfield 174, 3) := by decide +kernel
set_option maxRecDepth 20000 in
theorem dX5_mark_130 : decode cX5_mark 130 = .ok (.ldc2_w 182, 3) := by decide +kernel
set_option maxRecDepth 20000 in
theorem dX5_mark_133 : decode cX5_mark 133 = .ok (.ladd, 1) := by decide +kernel
set_option maxRecDepth 20000 in
theorem dX5_mark_134 : decode cX5_mark 134 = .ok (.putfield 174, 3) := by decide +kernel
set_option maxRecDepth 20000 in
theorem dX5_mark_137 : decode cX5_mark 137 = .ok (.iconst 2, 1) := by decide +kernel
set_option maxRecDepth 20000 in
theorem dX5_mark_138 : decode cX5_mark 138 = .ok (.aload_n 0, 1) := by decide +kernel
set_option maxRecDepth 20000 in
theorem dX5_mark_139 : decode cX5_mark 139 = .ok (.getfield 23, 3) := by decide +kernel
set_option maxRecDepth 20000 in
theorem dX5_mark_142 : decode cX5_mark 142 = .ok (.iload_n 2, 1) := by decide +kernel
set_option maxRecDepth 20000 in
theorem dX5_mark_143 : decode cX5_mark 143 = .ok (.iaload, 1) := by decide +kernel
set_option maxRecDepth 20000 in
theorem dX5_mark_144 : decode cX5_mark 144 = .ok (.aload_n 0, 1) := by decide +kernel
set_option maxRecDepth 20000 in
theorem dX5_mark_145 : decode cX5_mark 145 = .ok (.getfield 38, 3) := by decide +kernel
set_option maxRecDepth 20000 in
theorem dX5_mark_148 : decode cX5_mark 148 = .ok (.iload_n 2, 1) := by decide +kernel
set_option maxRecDepth 20000 in
theorem dX5_mark_149 : decode cX5_mark 149 = .ok (.iaload, 1) := by decide +kernel
set_option maxRecDepth 20000 in
theorem dX5_mark_150 : decode cX5_mark 150 = .ok (.iadd, 1) := by decide +kernel
set_option maxRecDepth 20000 in
theorem dX5_mark_151 : decode cX5_mark 151 = .ok (.imul, 1) := by decide +kernel
set_option maxRecDepth 20000 in
theorem dX5_mark_152 : decode cX5_mark 152 = .ok (.ireturn, 1) := by decide +kernel
set_option maxRecDepth 20000 in
theorem dX5_mark_153 : decode cX5_mark 153 = .ok (.aload_n 0, 1) := by decide +kernel
set_option maxRecDepth 20000 in
theorem dX5_mark_154 : decode cX5_mark 154 = .ok (.dup, 1) := by decide +kernel
set_option maxRecDepth 20000 in
theorem dX5_mark_155 : decode cX5_mark 155 = .ok (.getfield 174, 3) := by decide +kernel
set_option maxRecDepth 20000 in
theorem dX5_mark_158 : decode cX5_mark 158 = .ok (.ldc2_w 184, 3) := by decide +kernel
set_option maxRecDepth 20000 in
theorem dX5_mark_161 : decode cX5_mark 161 = .ok (.ladd, 1) := by decide +kernel
set_option maxRecDepth 20000 in
theorem dX5_mark_162 : decode cX5_mark 162 = .ok (.putfield 174, 3) := by decide +kernel
set_option maxRecDepth 20000 in
theorem dX5_mark_165 : decode cX5_mark 165 = .ok (.aload_n 0, 1) := by decide +kernel
set_option maxRecDepth 20000 in
theorem dX5_mark_166 : decode cX5_mark 166 = .ok (.getfield 23, 3) := by decide +kernel
set_option maxRecDepth 20000 in
theorem dX5_mark_169 : decode cX5_mark 169 = .ok (.iload_n 2, 1) := by decide +kernel
set_option maxRecDepth 20000 in
theorem dX5_mark_170 : decode cX5_mark 170 = .ok (.iaload, 1) := by decide +kernel
set_option maxRecDepth 20000 in
theorem dX5_mark_171 : decode cX5_mark 171 = .ok (.aload_n 0, 1) := by decide +kernel
set_option maxRecDepth 20000 in
theorem dX5_mark_172 : decode cX5_mark 172 = .ok (.getfield 32, 3) := by decide +kernel
set_option maxRecDepth 20000 in
theorem dX5_mark_175 : decode cX5_mark 175 = .ok (.iload_n 2, 1) := by decide +kernel
set_option maxRecDepth 20000 in
theorem dX5_mark_176 : decode cX5_mark 176 = .ok (.iaload, 1) := by decide +kernel
set_option maxRecDepth 20000 in
theorem dX5_mark_177 : decode cX5_mark 177 = .ok (.isub, 1) := by decide +kernel
set_option maxRecDepth 20000 in
theorem dX5_mark_178 : decode cX5_mark 178 = .ok (.iload_n 2, 1) := by decide +kernel
set_option maxRecDepth 20000 in
theorem dX5_mark_179 : decode cX5_mark 179 = .ok (.iadd, 1) := by decide +kernel
set_option maxRecDepth 20000 in
theorem dX5_mark_180 : decode cX5_mark 180 = .ok (.ireturn, 1) := by decide +kernel
set_option maxRecDepth 20000 in
theorem dX5_mark_181 : decode cX5_mark 181 = .ok (.aload_n 0, 1) := by decide +kernel
set_option maxRecDepth 20000 in
theorem dX5_mark_182 : decode cX5_mark 182 = .ok (.dup, 1) := by decide +kernel
set_option maxRecDepth 20000 in
theorem dX5_mark_183 : decode cX5_mark 183 = .ok (.getfield 174, 3) := by decide +kernel
set_option maxRecDepth 20000 in
theorem dX5_mark_186 : decode cX5_mark 186 = .ok (.ldc2_w 186, 3) := by decide +kernel
set_option maxRecDepth 20000 in
theorem dX5_mark_189 : decode cX5_mark 189 = .ok (.ladd, 1) := by decide +kernel
set_option maxRecDepth 20000 in
theorem dX5_mark_190 : decode cX5_mark 190 = .ok (.putfield 174, 3) := by decide +kernel
set_option maxRecDepth 20000 in
theorem dX5_mark_193 : decode cX5_mark 193 = .ok (.aload_n 0, 1) := by decide +kernel
set_option maxRecDepth 20000 in
theorem dX5_mark_194 : decode cX5_mark 194 = .ok (.getfield 23, 3) := by decide +kernel
set_option maxRecDepth 20000 in
theorem dX5_mark_197 : decode cX5_mark 197 = .ok (.iload_n 2, 1) := by decide +kernel
set_option maxRecDepth 20000 in
theorem dX5_mark_198 : decode cX5_mark 198 = .ok (.iaload, 1) := by decide +kernel
set_option maxRecDepth 20000 in
theorem dX5_mark_199 : decode cX5_mark 199 = .ok (.aload_n 0, 1) := by decide +kernel
set_option maxRecDepth 20000 in
theorem dX5_mark_200 : decode cX5_mark 200 = .ok (.getfield 38, 3) := by decide +kernel
set_option maxRecDepth 20000 in
theorem dX5_mark_203 : decode cX5_mark 203 = .ok (.bipush 6, 2) := by decide +kernel
set_option maxRecDepth 20000 in
theorem dX5_mark_205 : decode cX5_mark 205 = .ok (.iaload, 1) := by decide +kernel
set_option maxRecDepth 20000 in
theorem dX5_mark_206 : decode cX5_mark 206 = .ok (.iadd, 1) := by decide +kernel
set_option maxRecDepth 20000 in
theorem dX5_mark_207 : decode cX5_mark 207 = .ok (.ireturn, 1) := by decide +kernel
set_option maxRecDepth 20000 in
theorem dX5_copy_0 : decode cX5_copy 0 = .ok (.iconst 0, 1) := by decide +kernel
set_option maxRecDepth 20000 in
theorem dX5_copy_1 : decode cX5_copy 1 = .ok (.istore_n 3, 1) := by decide +kernel
set_option maxRecDepth 20000 in
theorem dX5_copy_2 : decode cX5_copy 2 = .ok (.iload_n 3, 1) := by decide +kernel
set_option maxRecDepth 20000 in
theorem dX5_copy_3 : decode cX5_copy 3 = .ok (.bipush 80, 2) := by decide +kernel
set_option maxRecDepth 20000 in
theorem dX5_copy_5 : decode cX5_copy 5 = .ok (.if_icmp .ge 25, 3) := by decide +kernel
set_option maxRecDepth 20000 in
theorem dX5_copy_8 : decode cX5_copy 8 = .ok (.aload_n 0, 1) := by decide +kernel
set_option maxRecDepth 20000 in
theorem dX5_copy_9 : decode cX5_copy 9 = .ok (.getfield 38, 3) := by decide +kernel
set_option maxRecDepth 20000 in
theorem dX5_copy_12 : decode cX5_copy 12 = .ok (.iload_n 2, 1) := by decide +kernel
set_option maxRecDepth 20000 in
theorem dX5_copy_13 : decode cX5_copy 13 = .ok (.iload_n 3, 1) := by decide +kernel
set_option maxRecDepth 20000 in
theorem dX5_copy_14 : decode cX5_copy 14 = .ok (.iadd, 1) := by decide +kernel
set_option maxRecDepth 20000 in
theorem dX5_copy_15 : decode cX5_copy 15 = .ok (.aload_n 0, 1) := by decide +kernel
set_option maxRecDepth 20000 in
theorem dX5_copy_16 : decode cX5_copy 16 = .ok (.getfield 38, 3) := by decide +kernel
set_option maxRecDepth 20000 in
theorem dX5_copy_19 : decode cX5_copy 19 = .ok (.iload_n 1, 1) := by decide +kernel
set_option maxRecDepth 20000 in
theorem dX5_copy_20 : decode cX5_copy 20 = .ok (.iload_n 3, 1) := by decide +kernel
set_option maxRecDepth 20000 in
theorem dX5_copy_21 : decode cX5_copy 21 = .ok (.iadd, 1) := by decide +kernel
set_option maxRecDepth 20000 in
theorem dX5_copy_22 : decode cX5_copy 22 = .ok (.iaload, 1) := by decide +kernel
set_option maxRecDepth 20000 in
theorem dX5_copy_23 : decode cX5_copy 23 = .ok (.iastore, 1) := by decide +kernel
set_option maxRecDepth 20000 in
theorem dX5_copy_24 : decode cX5_copy 24 = .ok (.iinc 3 1, 3) := by decide +kernel
set_option maxRecDepth 20000 in
theorem dX5_copy_27 : decode cX5_copy 27 = .ok (.goto (-25), 3) := by decide +kernel
set_option maxRecDepth 20000 in
theorem dX5_copy_30 : decode cX5_copy 30 = .ok (.return_, 1) := by decide +kernel
set_option maxRecDepth 20000 in
theorem dX5_keep_0 : decode cX5_keep 0 = .ok (.iload_n 1, 1) := by decide +kernel
set_option maxRecDepth 20000 in
theorem dX5_keep_1 : decode cX5_keep 1 = .ok (.iconst 0, 1) := by decide +kernel
set_option maxRecDepth 20000 in
theorem dX5_keep_2 : decode cX5_keep 2 = .ok (.iconst 1, 1) := by decide +kernel
set_option maxRecDepth 20000 in
theorem dX5_keep_3 : decode cX5_keep 3 = .ok (.invokestatic 52, 3) := by decide +kernel
set_option maxRecDepth 20000 in
theorem dX5_keep_6 : decode cX5_keep 6 = .ok (.ifCond .ne 5, 3) := by decide +kernel
set_option maxRecDepth 20000 in
theorem dX5_keep_9 : decode cX5_keep 9 = .ok (.iconst (-1), 1) := by decide +kernel
set_option maxRecDepth 20000 in
theorem dX5_keep_10 : decode cX5_keep 10 = .ok (.ireturn, 1) := by decide +kernel
set_option maxRecDepth 20000 in
theorem dX5_keep_11 : decode cX5_keep 11 = .ok (.aload_n 0, 1) := by decide +kernel
set_option maxRecDepth 20000 in
theorem dX5_keep_12 : decode cX5_keep 12 = .ok (.iconst 0, 1) := by decide +kernel
set_option maxRecDepth 20000 in
theorem dX5_keep_13 : decode cX5_keep 13 = .ok (.bipush 80, 2) := by decide +kernel
set_option maxRecDepth 20000 in
theorem dX5_keep_15 : decode cX5_keep 15 = .ok (.iconst 1, 1) := by decide +kernel
set_option maxRecDepth 20000 in
theorem dX5_keep_16 : decode cX5_keep 16 = .ok (.iload_n 1, 1) := by decide +kernel
set_option maxRecDepth 20000 in
theorem dX5_keep_17 : decode cX5_keep 17 = .ok (.iadd, 1) := by decide +kernel
set_option maxRecDepth 20000 in
theorem dX5_keep_18 : decode cX5_keep 18 = .ok (.imul, 1) := by decide +kernel
set_option maxRecDepth 20000 in
theorem dX5_keep_19 : decode cX5_keep 19 = .ok (.invokevirtual 188, 3) := by decide +kernel
set_option maxRecDepth 20000 in
theorem dX5_keep_22 : decode cX5_keep 22 = .ok (.aload_n 0, 1) := by decide +kernel
set_option maxRecDepth 20000 in
theorem dX5_keep_23 : decode cX5_keep 23 = .ok (.getfield 41, 3) := by decide +kernel
set_option maxRecDepth 20000 in
theorem dX5_keep_26 : decode cX5_keep 26 = .ok (.iload_n 1, 1) := by decide +kernel
set_option maxRecDepth 20000 in
theorem dX5_keep_27 : decode cX5_keep 27 = .ok (.iconst 1, 1) := by decide +kernel
set_option maxRecDepth 20000 in
theorem dX5_keep_28 : decode cX5_keep 28 = .ok (.bastore, 1) := by decide +kernel
set_option maxRecDepth 20000 in
theorem dX5_keep_29 : decode cX5_keep 29 = .ok (.aload_n 0, 1) := by decide +kernel
set_option maxRecDepth 20000 in
theorem dX5_keep_30 : decode cX5_keep 30 = .ok (.getfield 38, 3) := by decide +kernel
set_option maxRecDepth 20000 in
theorem dX5_keep_33 : decode cX5_keep 33 = .ok (.bipush 7, 2) := by decide +kernel
set_option maxRecDepth 20000 in
theorem dX5_keep_35 : decode cX5_keep 35 = .ok (.iaload, 1) := by decide +kernel
set_option maxRecDepth 20000 in
theorem dX5_keep_36 : decode cX5_keep 36 = .ok (.ireturn, 1) := by decide +kernel
set_option maxRecDepth 20000 in
theorem dX5_back_0 : decode cX5_back 0 = .ok (.iload_n 1, 1) := by decide +kernel
set_option maxRecDepth 20000 in
theorem dX5_back_1 : decode cX5_back 1 = .ok (.iconst 0, 1) := by decide +kernel
set_option maxRecDepth 20000 in
theorem dX5_back_2 : decode cX5_back 2 = .ok (.iconst 1, 1) := by decide +kernel
set_option maxRecDepth 20000 in
theorem dX5_back_3 : decode cX5_back 3 = .ok (.invokestatic 52, 3) := by decide +kernel
set_option maxRecDepth 20000 in
theorem dX5_back_6 : decode cX5_back 6 = .ok (.ifCond .ne 5, 3) := by decide +kernel
set_option maxRecDepth 20000 in
theorem dX5_back_9 : decode cX5_back 9 = .ok (.iconst (-1), 1) := by decide +kernel
set_option maxRecDepth 20000 in
theorem dX5_back_10 : decode cX5_back 10 = .ok (.ireturn, 1) := by decide +kernel
set_option maxRecDepth 20000 in
theorem dX5_back_11 : decode cX5_back 11 = .ok (.aload_n 0, 1) := by decide +kernel
set_option maxRecDepth 20000 in
theorem dX5_back_12 : decode cX5_back 12 = .ok (.getfield 41, 3) := by decide +kernel
set_option maxRecDepth 20000 in
theorem dX5_back_15 : decode cX5_back 15 = .ok (.iload_n 1, 1) := by decide +kernel
set_option maxRecDepth 20000 in
theorem dX5_back_16 : decode cX5_back 16 = .ok (.baload, 1) := by decide +kernel
set_option maxRecDepth 20000 in
theorem dX5_back_17 : decode cX5_back 17 = .ok (.ifCond .ne 6, 3) := by decide +kernel
set_option maxRecDepth 20000 in
theorem dX5_back_20 : decode cX5_back 20 = .ok (.bipush (-2), 2) := by decide +kernel
set_option maxRecDepth 20000 in
theorem dX5_back_22 : decode cX5_back 22 = .ok (.ireturn, 1) := by decide +kernel
set_option maxRecDepth 20000 in
theorem dX5_back_23 : decode cX5_back 23 = .ok (.aload_n 0, 1) := by decide +kernel
set_option maxRecDepth 20000 in
theorem dX5_back_24 : decode cX5_back 24 = .ok (.bipush 80, 2) := by decide +kernel
set_option maxRecDepth 20000 in
theorem dX5_back_26 : decode cX5_back 26 = .ok (.iconst 1, 1) := by decide +kernel
set_option maxRecDepth 20000 in
theorem dX5_back_27 : decode cX5_back 27 = .ok (.iload_n 1, 1) := by decide +kernel
set_option maxRecDepth 20000 in
theorem dX5_back_28 : decode cX5_back 28 = .ok (.iadd, 1) := by decide +kernel
set_option maxRecDepth 20000 in
theorem dX5_back_29 : decode cX5_back 29 = .ok (.imul, 1) := by decide +kernel
set_option maxRecDepth 20000 in
theorem dX5_back_30 : decode cX5_back 30 = .ok (.iconst 0, 1) := by decide +kernel
set_option maxRecDepth 20000 in
theorem dX5_back_31 : decode cX5_back 31 = .ok (.invokevirtual 188, 3) := by decide +kernel
set_option maxRecDepth 20000 in
theorem dX5_back_34 : decode cX5_back 34 = .ok (.aload_n 0, 1) := by decide +kernel
set_option maxRecDepth 20000 in
theorem dX5_back_35 : decode cX5_back 35 = .ok (.getfield 38, 3) := by decide +kernel
set_option maxRecDepth 20000 in
theorem dX5_back_38 : decode cX5_back 38 = .ok (.bipush 7, 2) := by decide +kernel
set_option maxRecDepth 20000 in
theorem dX5_back_40 : decode cX5_back 40 = .ok (.iaload, 1) := by decide +kernel
set_option maxRecDepth 20000 in
theorem dX5_back_41 : decode cX5_back 41 = .ok (.ireturn, 1) := by decide +kernel
set_option maxRecDepth 20000 in
theorem dX5_count_0 : decode cX5_count 0 = .ok (.iload_n 1, 1) := by decide +kernel
set_option maxRecDepth 20000 in
theorem dX5_count_1 : decode cX5_count 1 = .ok (.tableswitch 79 0 5 #[39, 46, 53, 61, 69, 74], 39) := by decide +kernel
set_option maxRecDepth 20000 in
theorem dX5_count_40 : decode cX5_count 40 = .ok (.aload_n 0, 1) := by decide +kernel
set_option maxRecDepth 20000 in
theorem dX5_count_41 : decode cX5_count 41 = .ok (.getfield 13, 3) := by decide +kernel
set_option maxRecDepth 20000 in
theorem dX5_count_44 : decode cX5_count 44 = .ok (.iconst 0, 1) := by decide +kernel
set_option maxRecDepth 20000 in
theorem dX5_count_45 : decode cX5_count 45 = .ok (.iaload, 1) := by decide +kernel
set_option maxRecDepth 20000 in
theorem dX5_count_46 : decode cX5_count 46 = .ok (.ireturn, 1) := by decide +kernel
set_option maxRecDepth 20000 in
theorem dX5_count_47 : decode cX5_count 47 = .ok (.aload_n 0, 1) := by decide +kernel
set_option maxRecDepth 20000 in
theorem dX5_count_48 : decode cX5_count 48 = .ok (.getfield 20, 3) := by decide +kernel
set_option maxRecDepth 20000 in
theorem dX5_count_51 : decode cX5_count 51 = .ok (.iconst 0, 1) := by decide +kernel
set_option maxRecDepth 20000 in
theorem dX5_count_52 : decode cX5_count 52 = .ok (.iaload, 1) := by decide +kernel
set_option maxRecDepth 20000 in
theorem dX5_count_53 : decode cX5_count 53 = .ok (.ireturn, 1) := by decide +kernel
set_option maxRecDepth 20000 in
theorem dX5_count_54 : decode cX5_count 54 = .ok (.aload_n 0, 1) := by decide +kernel
set_option maxRecDepth 20000 in
theorem dX5_count_55 : decode cX5_count 55 = .ok (.getfield 38, 3) := by decide +kernel
set_option maxRecDepth 20000 in
theorem dX5_count_58 : decode cX5_count 58 = .ok (.bipush 6, 2) := by decide +kernel
set_option maxRecDepth 20000 in
theorem dX5_count_60 : decode cX5_count 60 = .ok (.iaload, 1) := by decide +kernel
set_option maxRecDepth 20000 in
theorem dX5_count_61 : decode cX5_count 61 = .ok (.ireturn, 1) := by decide +kernel
set_option maxRecDepth 20000 in
theorem dX5_count_62 : decode cX5_count 62 = .ok (.aload_n 0, 1) := by decide +kernel
set_option maxRecDepth 20000 in
theorem dX5_count_63 : decode cX5_count 63 = .ok (.getfield 38, 3) := by decide +kernel
set_option maxRecDepth 20000 in
theorem dX5_count_66 : decode cX5_count 66 = .ok (.bipush 7, 2) := by decide +kernel
set_option maxRecDepth 20000 in
theorem dX5_count_68 : decode cX5_count 68 = .ok (.iaload, 1) := by decide +kernel
set_option maxRecDepth 20000 in
theorem dX5_count_69 : decode cX5_count 69 = .ok (.ireturn, 1) := by decide +kernel
set_option maxRecDepth 20000 in
theorem dX5_count_70 : decode cX5_count 70 = .ok (.aload_n 0, 1) := by decide +kernel
set_option maxRecDepth 20000 in
theorem dX5_count_71 : decode cX5_count 71 = .ok (.getfield 98, 3) := by decide +kernel
set_option maxRecDepth 20000 in
theorem dX5_count_74 : decode cX5_count 74 = .ok (.ireturn, 1) := by decide +kernel
set_option maxRecDepth 20000 in
theorem dX5_count_75 : decode cX5_count 75 = .ok (.aload_n 0, 1) := by decide +kernel
set_option maxRecDepth 20000 in
theorem dX5_count_76 : decode cX5_count 76 = .ok (.getfield 48, 3) := by decide +kernel
set_option maxRecDepth 20000 in
theorem dX5_count_79 : decode cX5_count 79 = .ok (.ireturn, 1) := by decide +kernel
set_option maxRecDepth 20000 in
theorem dX5_count_80 : decode cX5_count 80 = .ok (.iconst (-1), 1) := by decide +kernel
set_option maxRecDepth 20000 in
theorem dX5_count_81 : decode cX5_count 81 = .ok (.ireturn, 1) := by decide +kernel
set_option maxRecDepth 20000 in
theorem dX5_trace_0 : decode cX5_trace 0 = .ok (.aload_n 0, 1) := by decide +kernel
set_option maxRecDepth 20000 in
theorem dX5_trace_1 : decode cX5_trace 1 = .ok (.getfield 174, 3) := by decide +kernel
set_option maxRecDepth 20000 in
theorem dX5_trace_4 : decode cX5_trace 4 = .ok (.lreturn, 1) := by decide +kernel
end
section
set_option maxRecDepth 20000 in
theorem dL_law_0 : decode cL_law 0 = .ok (.new 7, 3) := by decide +kernel
set_option maxRecDepth 20000 in
theorem dL_law_3 : decode cL_law 3 = .ok (.dup, 1) := by decide +kernel
set_option maxRecDepth 20000 in
theorem dL_law_4 : decode cL_law 4 = .ok (.invokespecial 9, 3) := by decide +kernel
set_option maxRecDepth 20000 in
theorem dL_law_7 : decode cL_law 7 = .ok (.astore_n 1, 1) := by decide +kernel
set_option maxRecDepth 20000 in
theorem dL_law_8 : decode cL_law 8 = .ok (.new 10, 3) := by decide +kernel
set_option maxRecDepth 20000 in
theorem dL_law_11 : decode cL_law 11 = .ok (.dup, 1) := by decide +kernel
set_option maxRecDepth 20000 in
theorem dL_law_12 : decode cL_law 12 = .ok (.invokespecial 12, 3) := by decide +kernel
set_option maxRecDepth 20000 in
theorem dL_law_15 : decode cL_law 15 = .ok (.astore_n 2, 1) := by decide +kernel
set_option maxRecDepth 20000 in
theorem dL_law_16 : decode cL_law 16 = .ok (.iconst 0, 1) := by decide +kernel
set_option maxRecDepth 20000 in
theorem dL_law_17 : decode cL_law 17 = .ok (.istore_n 3, 1) := by decide +kernel
set_option maxRecDepth 20000 in
theorem dL_law_18 : decode cL_law 18 = .ok (.iload_n 3, 1) := by decide +kernel
set_option maxRecDepth 20000 in
theorem dL_law_19 : decode cL_law 19 = .ok (.aload_n 0, 1) := by decide +kernel
set_option maxRecDepth 20000 in
theorem dL_law_20 : decode cL_law 20 = .ok (.arraylength, 1) := by decide +kernel
set_option maxRecDepth 20000 in
theorem dL_law_21 : decode cL_law 21 = .ok (.bipush 6, 2) := by decide +kernel
set_option maxRecDepth 20000 in
theorem dL_law_23 : decode cL_law 23 = .ok (.isub, 1) := by decide +kernel
set_option maxRecDepth 20000 in
theorem dL_law_24 : decode cL_law 24 = .ok (.if_icmp .gt 1007, 3) := by decide +kernel
set_option maxRecDepth 20000 in
theorem dL_law_27 : decode cL_law 27 = .ok (.aload_n 0, 1) := by decide +kernel
set_option maxRecDepth 20000 in
theorem dL_law_28 : decode cL_law 28 = .ok (.iload_n 3, 1) := by decide +kernel
set_option maxRecDepth 20000 in
theorem dL_law_29 : decode cL_law 29 = .ok (.iaload, 1) := by decide +kernel
set_option maxRecDepth 20000 in
theorem dL_law_30 : decode cL_law 30 = .ok (.bipush 31, 2) := by decide +kernel
set_option maxRecDepth 20000 in
theorem dL_law_32 : decode cL_law 32 = .ok (.iand, 1) := by decide +kernel
set_option maxRecDepth 20000 in
theorem dL_law_33 : decode cL_law 33 = .ok (.tableswitch 992 0 27 #[127, 190, 203, 216, 239, 272, 315, 348, 391, 454, 467, 490, 503, 536, 569, 602, 635, 668, 721, 734, 757, 810, 823, 876, 909, 932, 955, 978], 127) := by decide +kernel
set_option maxRecDepth 20000 in
theorem dL_law_160 : decode cL_law 160 = .ok (.aload_n 1, 1) := by decide +kernel
set_option maxRecDepth 20000 in
theorem dL_law_161 : decode cL_law 161 = .ok (.aload_n 0, 1) := by decide +kernel
set_option maxRecDepth 20000 in
theorem dL_law_162 : decode cL_law 162 = .ok (.iload_n 3, 1) := by decide +kernel
set_option maxRecDepth 20000 in
theorem dL_law_163 : decode cL_law 163 = .ok (.iconst 1, 1) := by decide +kernel
set_option maxRecDepth 20000 in
theorem dL_law_164 : decode cL_law 164 = .ok (.iadd, 1) := by decide +kernel
set_option maxRecDepth 20000 in
theorem dL_law_165 : decode cL_law 165 = .ok (.iaload, 1) := by decide +kernel
set_option maxRecDepth 20000 in
theorem dL_law_166 : decode cL_law 166 = .ok (.i2l, 1) := by decide +kernel
set_option maxRecDepth 20000 in
theorem dL_law_167 : decode cL_law 167 = .ok (.bipush 32, 2) := by decide +kernel
set_option maxRecDepth 20000 in
theorem dL_law_169 : decode cL_law 169 = .ok (.lshl, 1) := by decide +kernel
set_option maxRecDepth 20000 in
theorem dL_law_170 : decode cL_law 170 = .ok (.aload_n 0, 1) := by decide +kernel
set_option maxRecDepth 20000 in
theorem dL_law_171 : decode cL_law 171 = .ok (.iload_n 3, 1) := by decide +kernel
set_option maxRecDepth 20000 in
theorem dL_law_172 : decode cL_law 172 = .ok (.iconst 2, 1) := by decide +kernel
set_option maxRecDepth 20000 in
theorem dL_law_173 : decode cL_law 173 = .ok (.iadd, 1) := by decide +kernel
set_option maxRecDepth 20000 in
theorem dL_law_174 : decode cL_law 174 = .ok (.iaload, 1) := by decide +kernel
set_option maxRecDepth 20000 in
theorem dL_law_175 : decode cL_law 175 = .ok (.i2l, 1) := by decide +kernel
set_option maxRecDepth 20000 in
theorem dL_law_176 : decode cL_law 176 = .ok (.ldc2_w 13, 3) := by decide +kernel
set_option maxRecDepth 20000 in
theorem dL_law_179 : decode cL_law 179 = .ok (.land, 1) := by decide +kernel
set_option maxRecDepth 20000 in
theorem dL_law_180 : decode cL_law 180 = .ok (.lor, 1) := by decide +kernel
set_option maxRecDepth 20000 in
theorem dL_law_181 : decode cL_law 181 = .ok (.aload_n 0, 1) := by decide +kernel
set_option maxRecDepth 20000 in
theorem dL_law_182 : decode cL_law 182 = .ok (.iload_n 3, 1) := by decide +kernel
set_option maxRecDepth 20000 in
theorem dL_law_183 : decode cL_law 183 = .ok (.iconst 3, 1) := by decide +kernel
set_option maxRecDepth 20000 in
theorem dL_law_184 : decode cL_law 184 = .ok (.iadd, 1) := by decide +kernel
set_option maxRecDepth 20000 in
theorem dL_law_185 : decode cL_law 185 = .ok (.iaload, 1) := by decide +kernel
set_option maxRecDepth 20000 in
theorem dL_law_186 : decode cL_law 186 = .ok (.invokevirtual 15, 3) := by decide +kernel
set_option maxRecDepth 20000 in
theorem dL_law_189 : decode cL_law 189 = .ok (.aload_n 2, 1) := by decide +kernel
set_option maxRecDepth 20000 in
theorem dL_law_190 : decode cL_law 190 = .ok (.aload_n 0, 1) := by decide +kernel
set_option maxRecDepth 20000 in
theorem dL_law_191 : decode cL_law 191 = .ok (.iload_n 3, 1) := by decide +kernel
set_option maxRecDepth 20000 in
theorem dL_law_192 : decode cL_law 192 = .ok (.iconst 1, 1) := by decide +kernel
set_option maxRecDepth 20000 in
theorem dL_law_193 : decode cL_law 193 = .ok (.iadd, 1) := by decide +kernel
set_option maxRecDepth 20000 in
theorem dL_law_194 : decode cL_law 194 = .ok (.iaload, 1) := by decide +kernel
set_option maxRecDepth 20000 in
theorem dL_law_195 : decode cL_law 195 = .ok (.i2l, 1) := by decide +kernel
set_option maxRecDepth 20000 in
theorem dL_law_196 : decode cL_law 196 = .ok (.bipush 32, 2) := by decide +kernel
set_option maxRecDepth 20000 in
theorem dL_law_198 : decode cL_law 198 = .ok (.lshl, 1) := by decide +kernel
set_option maxRecDepth 20000 in
theorem dL_law_199 : decode cL_law 199 = .ok (.aload_n 0, 1) := by decide +kernel
set_option maxRecDepth 20000 in
theorem dL_law_200 : decode cL_law 200 = .ok (.iload_n 3, 1) := by decide +kernel
set_option maxRecDepth 20000 in
theorem dL_law_201 : decode cL_law 201 = .ok (.iconst 2, 1) := by decide +kernel
set_option maxRecDepth 20000 in
theorem dL_law_202 : decode cL_law 202 = .ok (.iadd, 1) := by decide +kernel
set_option maxRecDepth 20000 in
theorem dL_law_203 : decode cL_law 203 = .ok (.iaload, 1) := by decide +kernel
set_option maxRecDepth 20000 in
theorem dL_law_204 : decode cL_law 204 = .ok (.i2l, 1) := by decide +kernel
set_option maxRecDepth 20000 in
theorem dL_law_205 : decode cL_law 205 = .ok (.ldc2_w 13, 3) := by decide +kernel
set_option maxRecDepth 20000 in
theorem dL_law_208 : decode cL_law 208 = .ok (.land, 1) := by decide +kernel
set_option maxRecDepth 20000 in
theorem dL_law_209 : decode cL_law 209 = .ok (.lor, 1) := by decide +kernel
set_option maxRecDepth 20000 in
theorem dL_law_210 : decode cL_law 210 = .ok (.aload_n 0, 1) := by decide +kernel
set_option maxRecDepth 20000 in
theorem dL_law_211 : decode cL_law 211 = .ok (.iload_n 3, 1) := by decide +kernel
set_option maxRecDepth 20000 in
theorem dL_law_212 : decode cL_law 212 = .ok (.iconst 3, 1) := by decide +kernel
set_option maxRecDepth 20000 in
theorem dL_law_213 : decode cL_law 213 = .ok (.iadd, 1) := by decide +kernel
set_option maxRecDepth 20000 in
theorem dL_law_214 : decode cL_law 214 = .ok (.iaload, 1) := by decide +kernel
set_option maxRecDepth 20000 in
theorem dL_law_215 : decode cL_law 215 = .ok (.invokevirtual 19, 3) := by decide +kernel
set_option maxRecDepth 20000 in
theorem dL_law_218 : decode cL_law 218 = .ok (.if_icmp .eq 807, 3) := by decide +kernel
set_option maxRecDepth 20000 in
theorem dL_law_221 : decode cL_law 221 = .ok (.iconst 0, 1) := by decide +kernel
set_option maxRecDepth 20000 in
theorem dL_law_222 : decode cL_law 222 = .ok (.ireturn, 1) := by decide +kernel
set_option maxRecDepth 20000 in
theorem dL_law_223 : decode cL_law 223 = .ok (.aload_n 1, 1) := by decide +kernel
set_option maxRecDepth 20000 in
theorem dL_law_224 : decode cL_law 224 = .ok (.invokevirtual 20, 3) := by decide +kernel
set_option maxRecDepth 20000 in
theorem dL_law_227 : decode cL_law 227 = .ok (.aload_n 2, 1) := by decide +kernel
set_option maxRecDepth 20000 in
theorem dL_law_228 : decode cL_law 228 = .ok (.invokevirtual 24, 3) := by decide +kernel
set_option maxRecDepth 20000 in
theorem dL_law_231 : decode cL_law 231 = .ok (.if_icmp .eq 794, 3) := by decide +kernel
set_option maxRecDepth 20000 in
theorem dL_law_234 : decode cL_law 234 = .ok (.iconst 0, 1) := by decide +kernel
set_option maxRecDepth 20000 in
theorem dL_law_235 : decode cL_law 235 = .ok (.ireturn, 1) := by decide +kernel
set_option maxRecDepth 20000 in
theorem dL_law_236 : decode cL_law 236 = .ok (.aload_n 1, 1) := by decide +kernel
set_option maxRecDepth 20000 in
theorem dL_law_237 : decode cL_law 237 = .ok (.invokevirtual 25, 3) := by decide +kernel
set_option maxRecDepth 20000 in
theorem dL_law_240 : decode cL_law 240 = .ok (.aload_n 2, 1) := by decide +kernel
set_option maxRecDepth 20000 in
theorem dL_law_241 : decode cL_law 241 = .ok (.invokevirtual 28, 3) := by decide +kernel
set_option maxRecDepth 20000 in
theorem dL_law_244 : decode cL_law 244 = .ok (.if_icmp .eq 781, 3) := by decide +kernel
set_option maxRecDepth 20000 in
theorem dL_law_247 : decode cL_law 247 = .ok (.iconst 0, 1) := by decide +kernel
set_option maxRecDepth 20000 in
theorem dL_law_248 : decode cL_law 248 = .ok (.ireturn, 1) := by decide +kernel
set_option maxRecDepth 20000 in
theorem dL_law_249 : decode cL_law 249 = .ok (.aload_n 1, 1) := by decide +kernel
set_option maxRecDepth 20000 in
theorem dL_law_250 : decode cL_law 250 = .ok (.aload_n 0, 1) := by decide +kernel
set_option maxRecDepth 20000 in
theorem dL_law_251 : decode cL_law 251 = .ok (.iload_n 3, 1) := by decide +kernel
set_option maxRecDepth 20000 in
theorem dL_law_252 : decode cL_law 252 = .ok (.iconst 1, 1) := by decide +kernel
set_option maxRecDepth 20000 in
theorem dL_law_253 : decode cL_law 253 = .ok (.iadd, 1) := by decide +kernel
set_option maxRecDepth 20000 in
theorem dL_law_254 : decode cL_law 254 = .ok (.iaload, 1) := by decide +kernel
set_option maxRecDepth 20000 in
theorem dL_law_255 : decode cL_law 255 = .ok (.invokevirtual 29, 3) := by decide +kernel
set_option maxRecDepth 20000 in
theorem dL_law_258 : decode cL_law 258 = .ok (.aload_n 2, 1) := by decide +kernel
set_option maxRecDepth 20000 in
theorem dL_law_259 : decode cL_law 259 = .ok (.aload_n 0, 1) := by decide +kernel
set_option maxRecDepth 20000 in
theorem dL_law_260 : decode cL_law 260 = .ok (.iload_n 3, 1) := by decide +kernel
set_option maxRecDepth 20000 in
theorem dL_law_261 : decode cL_law 261 = .ok (.iconst 1, 1) := by decide +kernel
set_option maxRecDepth 20000 in
theorem dL_law_262 : decode cL_law 262 = .ok (.iadd, 1) := by decide +kernel
set_option maxRecDepth 20000 in
theorem dL_law_263 : decode cL_law 263 = .ok (.iaload, 1) := by decide +kernel
set_option maxRecDepth 20000 in
theorem dL_law_264 : decode cL_law 264 = .ok (.invokevirtual 33, 3) := by decide +kernel
set_option maxRecDepth 20000 in
theorem dL_law_267 : decode cL_law 267 = .ok (.if_icmp .eq 758, 3) := by decide +kernel
set_option maxRecDepth 20000 in
theorem dL_law_270 : decode cL_law 270 = .ok (.iconst 0, 1) := by decide +kernel
set_option maxRecDepth 20000 in
theorem dL_law_271 : decode cL_law 271 = .ok (.ireturn, 1) := by decide +kernel
set_option maxRecDepth 20000 in
theorem dL_law_272 : decode cL_law 272 = .ok (.aload_n 1, 1) := by decide +kernel
set_option maxRecDepth 20000 in
theorem dL_law_273 : decode cL_law 273 = .ok (.aload_n 0, 1) := by decide +kernel
set_option maxRecDepth 20000 in
theorem dL_law_274 : decode cL_law 274 = .ok (.iload_n 3, 1) := by decide +kernel
set_option maxRecDepth 20000 in
theorem dL_law_275 : decode cL_law 275 = .ok (.iconst 1, 1) := by decide +kernel
set_option maxRecDepth 20000 in
theorem dL_law_276 : decode cL_law 276 = .ok (.iadd, 1) := by decide +kernel
set_option maxRecDepth 20000 in
theorem dL_law_277 : decode cL_law 277 = .ok (.iaload, 1) := by decide +kernel
set_option maxRecDepth 20000 in
theorem dL_law_278 : decode cL_law 278 = .ok (.aload_n 0, 1) := by decide +kernel
set_option maxRecDepth 20000 in
theorem dL_law_279 : decode cL_law 279 = .ok (.iload_n 3, 1) := by decide +kernel
set_option maxRecDepth 20000 in
theorem dL_law_280 : decode cL_law 280 = .ok (.iconst 2, 1) := by decide +kernel
set_option maxRecDepth 20000 in
theorem dL_law_281 : decode cL_law 281 = .ok (.iadd, 1) := by decide +kernel
set_option maxRecDepth 20000 in
theorem dL_law_282 : decode cL_law 282 = .ok (.iaload, 1) := by decide +kernel
set_option maxRecDepth 20000 in
theorem dL_law_283 : decode cL_law 283 = .ok (.invokevirtual 34, 3) := by decide +kernel
set_option maxRecDepth 20000 in
theorem dL_law_286 : decode cL_law 286 = .ok (.aload_n 2, 1) := by decide +kernel
set_option maxRecDepth 20000 in
theorem dL_law_287 : decode cL_law 287 = .ok (.aload_n 0, 1) := by decide +kernel
set_option maxRecDepth 20000 in
theorem dL_law_288 : decode cL_law 288 = .ok (.iload_n 3, 1) := by decide +kernel
set_option maxRecDepth 20000 in
theorem dL_law_289 : decode cL_law 289 = .ok (.iconst 1, 1) := by decide +kernel
set_option maxRecDepth 20000 in
theorem dL_law_290 : decode cL_law 290 = .ok (.iadd, 1) := by decide +kernel
set_option maxRecDepth 20000 in
theorem dL_law_291 : decode cL_law 291 = .ok (.iaload, 1) := by decide +kernel
set_option maxRecDepth 20000 in
theorem dL_law_292 : decode cL_law 292 = .ok (.aload_n 0, 1) := by decide +kernel
set_option maxRecDepth 20000 in
theorem dL_law_293 : decode cL_law 293 = .ok (.iload_n 3, 1) := by decide +kernel
set_option maxRecDepth 20000 in
theorem dL_law_294 : decode cL_law 294 = .ok (.iconst 2, 1) := by decide +kernel
set_option maxRecDepth 20000 in
theorem dL_law_295 : decode cL_law 295 = .ok (.iadd, 1) := by decide +kernel
set_option maxRecDepth 20000 in
theorem dL_law_296 : decode cL_law 296 = .ok (.iaload, 1) := by decide +kernel
set_option maxRecDepth 20000 in
theorem dL_law_297 : decode cL_law 297 = .ok (.invokevirtual 38, 3) := by decide +kernel
set_option maxRecDepth 20000 in
theorem dL_law_300 : decode cL_law 300 = .ok (.if_icmp .eq 725, 3) := by decide +kernel
set_option maxRecDepth 20000 in
theorem dL_law_303 : decode cL_law 303 = .ok (.iconst 0, 1) := by decide +kernel
set_option maxRecDepth 20000 in
theorem dL_law_304 : decode cL_law 304 = .ok (.ireturn, 1) := by decide +kernel
set_option maxRecDepth 20000 in
theorem dL_law_305 : decode cL_law 305 = .ok (.aload_n 1, 1) := by decide +kernel
set_option maxRecDepth 20000 in
theorem dL_law_306 : decode cL_law 306 = .ok (.aload_n 0, 1) := by decide +kernel
set_option maxRecDepth 20000 in
theorem dL_law_307 : decode cL_law 307 = .ok (.iload_n 3, 1) := by decide +kernel
set_option maxRecDepth 20000 in
theorem dL_law_308 : decode cL_law 308 = .ok (.iconst 1, 1) := by decide +kernel
set_option maxRecDepth 20000 in
theorem dL_law_309 : decode cL_law 309 = .ok (.iadd, 1) := by decide +kernel
set_option maxRecDepth 20000 in
theorem dL_law_310 : decode cL_law 310 = .ok (.iaload, 1) := by decide +kernel
set_option maxRecDepth 20000 in
theorem dL_law_311 : decode cL_law 311 = .ok (.aload_n 0, 1) := by decide +kernel
set_option maxRecDepth 20000 in
theorem dL_law_312 : decode cL_law 312 = .ok (.iload_n 3, 1) := by decide +kernel
set_option maxRecDepth 20000 in
theorem dL_law_313 : decode cL_law 313 = .ok (.iconst 2, 1) := by decide +kernel
set_option maxRecDepth 20000 in
theorem dL_law_314 : decode cL_law 314 = .ok (.iadd, 1) := by decide +kernel
set_option maxRecDepth 20000 in
theorem dL_law_315 : decode cL_law 315 = .ok (.iaload, 1) := by decide +kernel
set_option maxRecDepth 20000 in
theorem dL_law_316 : decode cL_law 316 = .ok (.aload_n 0, 1) := by decide +kernel
set_option maxRecDepth 20000 in
theorem dL_law_317 : decode cL_law 317 = .ok (.iload_n 3, 1) := by decide +kernel
set_option maxRecDepth 20000 in
theorem dL_law_318 : decode cL_law 318 = .ok (.iconst 3, 1) := by decide +kernel
set_option maxRecDepth 20000 in
theorem dL_law_319 : decode cL_law 319 = .ok (.iadd, 1) := by decide +kernel
set_option maxRecDepth 20000 in
theorem dL_law_320 : decode cL_law 320 = .ok (.iaload, 1) := by decide +kernel
set_option maxRecDepth 20000 in
theorem dL_law_321 : decode cL_law 321 = .ok (.invokevirtual 39, 3) := by decide +kernel
set_option maxRecDepth 20000 in
theorem dL_law_324 : decode cL_law 324 = .ok (.aload_n 2, 1) := by decide +kernel
set_option maxRecDepth 20000 in
theorem dL_law_325 : decode cL_law 325 = .ok (.aload_n 0, 1) := by decide +kernel
set_option maxRecDepth 20000 in
theorem dL_law_326 : decode cL_law 326 = .ok (.iload_n 3, 1) := by decide +kernel
set_option maxRecDepth 20000 in
theorem dL_law_327 : decode cL_law 327 = .ok (.iconst 1, 1) := by decide +kernel
set_option maxRecDepth 20000 in
theorem dL_law_328 : decode cL_law 328 = .ok (.iadd, 1) := by decide +kernel
set_option maxRecDepth 20000 in
theorem dL_law_329 : decode cL_law 329 = .ok (.iaload, 1) := by decide +kernel
set_option maxRecDepth 20000 in
theorem dL_law_330 : decode cL_law 330 = .ok (.aload_n 0, 1) := by decide +kernel
set_option maxRecDepth 20000 in
theorem dL_law_331 : decode cL_law 331 = .ok (.iload_n 3, 1) := by decide +kernel
set_option maxRecDepth 20000 in
theorem dL_law_332 : decode cL_law 332 = .ok (.iconst 2, 1) := by decide +kernel
set_option maxRecDepth 20000 in
theorem dL_law_333 : decode cL_law 333 = .ok (.iadd, 1) := by decide +kernel
set_option maxRecDepth 20000 in
theorem dL_law_334 : decode cL_law 334 = .ok (.iaload, 1) := by decide +kernel
set_option maxRecDepth 20000 in
theorem dL_law_335 : decode cL_law 335 = .ok (.aload_n 0, 1) := by decide +kernel
set_option maxRecDepth 20000 in
theorem dL_law_336 : decode cL_law 336 = .ok (.iload_n 3, 1) := by decide +kernel
set_option maxRecDepth 20000 in
theorem dL_law_337 : decode cL_law 337 = .ok (.iconst 3, 1) := by decide +kernel
set_option maxRecDepth 20000 in
theorem dL_law_338 : decode cL_law 338 = .ok (.iadd, 1) := by decide +kernel
set_option maxRecDepth 20000 in
theorem dL_law_339 : decode cL_law 339 = .ok (.iaload, 1) := by decide +kernel
set_option maxRecDepth 20000 in
theorem dL_law_340 : decode cL_law 340 = .ok (.invokevirtual 43, 3) := by decide +kernel
set_option maxRecDepth 20000 in
theorem dL_law_343 : decode cL_law 343 = .ok (.if_icmp .eq 682, 3) := by decide +kernel
set_option maxRecDepth 20000 in
theorem dL_law_346 : decode cL_law 346 = .ok (.iconst 0, 1) := by decide +kernel
set_option maxRecDepth 20000 in
theorem dL_law_347 : decode cL_law 347 = .ok (.ireturn, 1) := by decide +kernel
set_option maxRecDepth 20000 in
theorem dL_law_348 : decode cL_law 348 = .ok (.aload_n 1, 1) := by decide +kernel
set_option maxRecDepth 20000 in
theorem dL_law_349 : decode cL_law 349 = .ok (.aload_n 0, 1) := by decide +kernel
set_option maxRecDepth 20000 in
theorem dL_law_350 : decode cL_law 350 = .ok (.iload_n 3, 1) := by decide +kernel
set_option maxRecDepth 20000 in
theorem dL_law_351 : decode cL_law 351 = .ok (.iconst 1, 1) := by decide +kernel
set_option maxRecDepth 20000 in
theorem dL_law_352 : decode cL_law 352 = .ok (.iadd, 1) := by decide +kernel
set_option maxRecDepth 20000 in
theorem dL_law_353 : decode cL_law 353 = .ok (.iaload, 1) := by decide +kernel
set_option maxRecDepth 20000 in
theorem dL_law_354 : decode cL_law 354 = .ok (.aload_n 0, 1) := by decide +kernel
set_option maxRecDepth 20000 in
theorem dL_law_355 : decode cL_law 355 = .ok (.iload_n 3, 1) := by decide +kernel
set_option maxRecDepth 20000 in
theorem dL_law_356 : decode cL_law 356 = .ok (.iconst 2, 1) := by decide +kernel
set_option maxRecDepth 20000 in
theorem dL_law_357 : decode cL_law 357 = .ok (.iadd, 1) := by decide +kernel
set_option maxRecDepth 20000 in
theorem dL_law_358 : decode cL_law 358 = .ok (.iaload, 1) := by decide +kernel
set_option maxRecDepth 20000 in
theorem dL_law_359 : decode cL_law 359 = .ok (.invokevirtual 44, 3) := by decide +kernel
set_option maxRecDepth 20000 in
theorem dL_law_362 : decode cL_law 362 = .ok (.aload_n 2, 1) := by decide +kernel
set_option maxRecDepth 20000 in
theorem dL_law_363 : decode cL_law 363 = .ok (.aload_n 0, 1) := by decide +kernel
set_option maxRecDepth 20000 in
theorem dL_law_364 : decode cL_law 364 = .ok (.iload_n 3, 1) := by decide +kernel
set_option maxRecDepth 20000 in
theorem dL_law_365 : decode cL_law 365 = .ok (.iconst 1, 1) := by decide +kernel
set_option maxRecDepth 20000 in
theorem dL_law_366 : decode cL_law 366 = .ok (.iadd, 1) := by decide +kernel
set_option maxRecDepth 20000 in
theorem dL_law_367 : decode cL_law 367 = .ok (.iaload, 1) := by decide +kernel
set_option maxRecDepth 20000 in
theorem dL_law_368 : decode cL_law 368 = .ok (.aload_n 0, 1) := by decide +kernel
set_option maxRecDepth 20000 in
theorem dL_law_369 : decode cL_law 369 = .ok (.iload_n 3, 1) := by decide +kernel
set_option maxRecDepth 20000 in
theorem dL_law_370 : decode cL_law 370 = .ok (.iconst 2, 1) := by decide +kernel
set_option maxRecDepth 20000 in
theorem dL_law_371 : decode cL_law 371 = .ok (.iadd, 1) := by decide +kernel
set_option maxRecDepth 20000 in
theorem dL_law_372 : decode cL_law 372 = .ok (.iaload, 1) := by decide +kernel
set_option maxRecDepth 20000 in
theorem dL_law_373 : decode cL_law 373 = .ok (.invokevirtual 47, 3) := by decide +kernel
set_option maxRecDepth 20000 in
theorem dL_law_376 : decode cL_law 376 = .ok (.if_icmp .eq 649, 3) := by decide +kernel
set_option maxRecDepth 20000 in
theorem dL_law_379 : decode cL_law 379 = .ok (.iconst 0, 1) := by decide +kernel
set_option maxRecDepth 20000 in
theorem dL_law_380 : decode cL_law 380 = .ok (.ireturn, 1) := by decide +kernel
set_option maxRecDepth 20000 in
theorem dL_law_381 : decode cL_law 381 = .ok (.aload_n 1, 1) := by decide +kernel
set_option maxRecDepth 20000 in
theorem dL_law_382 : decode cL_law 382 = .ok (.aload_n 0, 1) := by decide +kernel
set_option maxRecDepth 20000 in
theorem dL_law_383 : decode cL_law 383 = .ok (.iload_n 3, 1) := by decide +kernel
set_option maxRecDepth 20000 in
theorem dL_law_384 : decode cL_law 384 = .ok (.iconst 1, 1) := by decide +kernel
set_option maxRecDepth 20000 in
theorem dL_law_385 : decode cL_law 385 = .ok (.iadd, 1) := by decide +kernel
set_option maxRecDepth 20000 in
theorem dL_law_386 : decode cL_law 386 = .ok (.iaload, 1) := by decide +kernel
set_option maxRecDepth 20000 in
theorem dL_law_387 : decode cL_law 387 = .ok (.aload_n 0, 1) := by decide +kernel
set_option maxRecDepth 20000 in
theorem dL_law_388 : decode cL_law 388 = .ok (.iload_n 3, 1) := by decide +kernel
set_option maxRecDepth 20000 in
theorem dL_law_389 : decode cL_law 389 = .ok (.iconst 2, 1) := by decide +kernel
set_option maxRecDepth 20000 in
theorem dL_law_390 : decode cL_law 390 = .ok (.iadd, 1) := by decide +kernel
set_option maxRecDepth 20000 in
theorem dL_law_391 : decode cL_law 391 = .ok (.iaload, 1) := by decide +kernel
set_option maxRecDepth 20000 in
theorem dL_law_392 : decode cL_law 392 = .ok (.aload_n 0, 1) := by decide +kernel
set_option maxRecDepth 20000 in
theorem dL_law_393 : decode cL_law 393 = .ok (.iload_n 3, 1) := by decide +kernel
set_option maxRecDepth 20000 in
theorem dL_law_394 : decode cL_law 394 = .ok (.iconst 3, 1) := by decide +kernel
set_option maxRecDepth 20000 in
theorem dL_law_395 : decode cL_law 395 = .ok (.iadd, 1) := by decide +kernel
set_option maxRecDepth 20000 in
theorem dL_law_396 : decode cL_law 396 = .ok (.iaload, 1) := by decide +kernel
set_option maxRecDepth 20000 in
theorem dL_law_397 : decode cL_law 397 = .ok (.invokevirtual 48, 3) := by decide +kernel
set_option maxRecDepth 20000 in
theorem dL_law_400 : decode cL_law 400 = .ok (.aload_n 2, 1) := by decide +kernel
set_option maxRecDepth 20000 in
theorem dL_law_401 : decode cL_law 401 = .ok (.aload_n 0, 1) := by decide +kernel
set_option maxRecDepth 20000 in
theorem dL_law_402 : decode cL_law 402 = .ok (.iload_n 3, 1) := by decide +kernel
set_option maxRecDepth 20000 in
theorem dL_law_403 : decode cL_law 403 = .ok (.iconst 1, 1) := by decide +kernel
set_option maxRecDepth 20000 in
theorem dL_law_404 : decode cL_law 404 = .ok (.iadd, 1) := by decide +kernel
set_option maxRecDepth 20000 in
theorem dL_law_405 : decode cL_law 405 = .ok (.iaload, 1) := by decide +kernel
set_option maxRecDepth 20000 in
theorem dL_law_406 : decode cL_law 406 = .ok (.aload_n 0, 1) := by decide +kernel
set_option maxRecDepth 20000 in
theorem dL_law_407 : decode cL_law 407 = .ok (.iload_n 3, 1) := by decide +kernel
set_option maxRecDepth 20000 in
theorem dL_law_408 : decode cL_law 408 = .ok (.iconst 2, 1) := by decide +kernel
set_option maxRecDepth 20000 in
theorem dL_law_409 : decode cL_law 409 = .ok (.iadd, 1) := by decide +kernel
set_option maxRecDepth 20000 in
theorem dL_law_410 : decode cL_law 410 = .ok (.iaload, 1) := by decide +kernel
set_option maxRecDepth 20000 in
theorem dL_law_411 : decode cL_law 411 = .ok (.aload_n 0, 1) := by decide +kernel
set_option maxRecDepth 20000 in
theorem dL_law_412 : decode cL_law 412 = .ok (.iload_n 3, 1) := by decide +kernel
set_option maxRecDepth 20000 in
theorem dL_law_413 : decode cL_law 413 = .ok (.iconst 3, 1) := by decide +kernel
set_option maxRecDepth 20000 in
theorem dL_law_414 : decode cL_law 414 = .ok (.iadd, 1) := by decide +kernel
set_option maxRecDepth 20000 in
theorem dL_law_415 : decode cL_law 415 = .ok (.iaload, 1) := by decide +kernel
set_option maxRecDepth 20000 in
theorem dL_law_416 : decode cL_law 416 = .ok (.invokevirtual 51, 3) := by decide +kernel
set_option maxRecDepth 20000 in
theorem dL_law_419 : decode cL_law 419 = .ok (.if_icmp .eq 606, 3) := by decide +kernel
set_option maxRecDepth 20000 in
theorem dL_law_422 : decode cL_law 422 = .ok (.iconst 0, 1) := by decide +kernel
set_option maxRecDepth 20000 in
theorem dL_law_423 : decode cL_law 423 = .ok (.ireturn, 1) := by decide +kernel
set_option maxRecDepth 20000 in
theorem dL_law_424 : decode cL_law 424 = .ok (.aload_n 1, 1) := by decide +kernel
set_option maxRecDepth 20000 in
theorem dL_law_425 : decode cL_law 425 = .ok (.aload_n 0, 1) := by decide +kernel
set_option maxRecDepth 20000 in
theorem dL_law_426 : decode cL_law 426 = .ok (.iload_n 3, 1) := by decide +kernel
set_option maxRecDepth 20000 in
theorem dL_law_427 : decode cL_law 427 = .ok (.iconst 1, 1) := by decide +kernel
set_option maxRecDepth 20000 in
theorem dL_law_428 : decode cL_law 428 = .ok (.iadd, 1) := by decide +kernel
set_option maxRecDepth 20000 in
theorem dL_law_429 : decode cL_law 429 = .ok (.iaload, 1) := by decide +kernel
set_option maxRecDepth 20000 in
theorem dL_law_430 : decode cL_law 430 = .ok (.aload_n 0, 1) := by decide +kernel
set_option maxRecDepth 20000 in
theorem dL_law_431 : decode cL_law 431 = .ok (.iload_n 3, 1) := by decide +kernel
set_option maxRecDepth 20000 in
theorem dL_law_432 : decode cL_law 432 = .ok (.iconst 2, 1) := by decide +kernel
set_option maxRecDepth 20000 in
theorem dL_law_433 : decode cL_law 433 = .ok (.iadd, 1) := by decide +kernel
set_option maxRecDepth 20000 in
theorem dL_law_434 : decode cL_law 434 = .ok (.iaload, 1) := by decide +kernel
set_option maxRecDepth 20000 in
theorem dL_law_435 : decode cL_law 435 = .ok (.aload_n 0, 1) := by decide +kernel
set_option maxRecDepth 20000 in
theorem dL_law_436 : decode cL_law 436 = .ok (.iload_n 3, 1) := by decide +kernel
set_option maxRecDepth 20000 in
theorem dL_law_437 : decode cL_law 437 = .ok (.iconst 3, 1) := by decide +kernel
set_option maxRecDepth 20000 in
theorem dL_law_438 : decode cL_law 438 = .ok (.iadd, 1) := by decide +kernel
set_option maxRecDepth 20000 in
theorem dL_law_439 : decode cL_law 439 = .ok (.iaload, 1) := by decide +kernel
set_option maxRecDepth 20000 in
theorem dL_law_440 : decode cL_law 440 = .ok (.aload_n 0, 1) := by decide +kernel
set_option maxRecDepth 20000 in
theorem dL_law_441 : decode cL_law 441 = .ok (.iload_n 3, 1) := by decide +kernel
set_option maxRecDepth 20000 in
theorem dL_law_442 : decode cL_law 442 = .ok (.iconst 4, 1) := by decide +kernel
set_option maxRecDepth 20000 in
theorem dL_law_443 : decode cL_law 443 = .ok (.iadd, 1) := by decide +kernel
set_option maxRecDepth 20000 in
theorem dL_law_444 : decode cL_law 444 = .ok (.iaload, 1) := by decide +kernel
set_option maxRecDepth 20000 in
theorem dL_law_445 : decode cL_law 445 = .ok (.aload_n 0, 1) := by decide +kernel
set_option maxRecDepth 20000 in
theorem dL_law_446 : decode cL_law 446 = .ok (.iload_n 3, 1) := by decide +kernel
set_option maxRecDepth 20000 in
theorem dL_law_447 : decode cL_law 447 = .ok (.iconst 5, 1) := by decide +kernel
set_option maxRecDepth 20000 in
theorem dL_law_448 : decode cL_law 448 = .ok (.iadd, 1) := by decide +kernel
set_option maxRecDepth 20000 in
theorem dL_law_449 : decode cL_law 449 = .ok (.iaload, 1) := by decide +kernel
set_option maxRecDepth 20000 in
theorem dL_law_450 : decode cL_law 450 = .ok (.invokevirtual 52, 3) := by decide +kernel
set_option maxRecDepth 20000 in
theorem dL_law_453 : decode cL_law 453 = .ok (.aload_n 2, 1) := by decide +kernel
set_option maxRecDepth 20000 in
theorem dL_law_454 : decode cL_law 454 = .ok (.aload_n 0, 1) := by decide +kernel
set_option maxRecDepth 20000 in
theorem dL_law_455 : decode cL_law 455 = .ok (.iload_n 3, 1) := by decide +kernel
set_option maxRecDepth 20000 in
theorem dL_law_456 : decode cL_law 456 = .ok (.iconst 1, 1) := by decide +kernel
set_option maxRecDepth 20000 in
theorem dL_law_457 : decode cL_law 457 = .ok (.iadd, 1) := by decide +kernel
set_option maxRecDepth 20000 in
theorem dL_law_458 : decode cL_law 458 = .ok (.iaload, 1) := by decide +kernel
set_option maxRecDepth 20000 in
theorem dL_law_459 : decode cL_law 459 = .ok (.aload_n 0, 1) := by decide +kernel
set_option maxRecDepth 20000 in
theorem dL_law_460 : decode cL_law 460 = .ok (.iload_n 3, 1) := by decide +kernel
set_option maxRecDepth 20000 in
theorem dL_law_461 : decode cL_law 461 = .ok (.iconst 2, 1) := by decide +kernel
set_option maxRecDepth 20000 in
theorem dL_law_462 : decode cL_law 462 = .ok (.iadd, 1) := by decide +kernel
set_option maxRecDepth 20000 in
theorem dL_law_463 : decode cL_law 463 = .ok (.iaload, 1) := by decide +kernel
set_option maxRecDepth 20000 in
theorem dL_law_464 : decode cL_law 464 = .ok (.aload_n 0, 1) := by decide +kernel
set_option maxRecDepth 20000 in
theorem dL_law_465 : decode cL_law 465 = .ok (.iload_n 3, 1) := by decide +kernel
set_option maxRecDepth 20000 in
theorem dL_law_466 : decode cL_law 466 = .ok (.iconst 3, 1) := by decide +kernel
set_option maxRecDepth 20000 in
theorem dL_law_467 : decode cL_law 467 = .ok (.iadd, 1) := by decide +kernel
set_option maxRecDepth 20000 in
theorem dL_law_468 : decode cL_law 468 = .ok (.iaload, 1) := by decide +kernel
set_option maxRecDepth 20000 in
theorem dL_law_469 : decode cL_law 469 = .ok (.aload_n 0, 1) := by decide +kernel
set_option maxRecDepth 20000 in
theorem dL_law_470 : decode cL_law 470 = .ok (.iload_n 3, 1) := by decide +kernel
set_option maxRecDepth 20000 in
theorem dL_law_471 : decode cL_law 471 = .ok (.iconst 4, 1) := by decide +kernel
set_option maxRecDepth 20000 in
theorem dL_law_472 : decode cL_law 472 = .ok (.iadd, 1) := by decide +kernel
set_option maxRecDepth 20000 in
theorem dL_law_473 : decode cL_law 473 = .ok (.iaload, 1) := by decide +kernel
set_option maxRecDepth 20000 in
theorem dL_law_474 : decode cL_law 474 = .ok (.aload_n 0, 1) := by decide +kernel
set_option maxRecDepth 20000 in
theorem dL_law_475 : decode cL_law 475 = .ok (.iload_n 3, 1) := by decide +kernel
set_option maxRecDepth 20000 in
theorem dL_law_476 : decode cL_law 476 = .ok (.iconst 5, 1) := by decide +kernel
set_option maxRecDepth 20000 in
theorem dL_law_477 : decode cL_law 477 = .ok (.iadd, 1) := by decide +kernel
set_option maxRecDepth 20000 in
theorem dL_law_478 : decode cL_law 478 = .ok (.iaload, 1) := by decide +kernel
set_option maxRecDepth 20000 in
theorem dL_law_479 : decode cL_law 479 = .ok (.invokevirtual 56, 3) := by decide +kernel
set_option maxRecDepth 20000 in
theorem dL_law_482 : decode cL_law 482 = .ok (.if_icmp .eq 543, 3) := by decide +kernel
set_option maxRecDepth 20000 in
theorem dL_law_485 : decode cL_law 485 = .ok (.iconst 0, 1) := by decide +kernel
set_option maxRecDepth 20000 in
theorem dL_law_486 : decode cL_law 486 = .ok (.ireturn, 1) := by decide +kernel
set_option maxRecDepth 20000 in
theorem dL_law_487 : decode cL_law 487 = .ok (.aload_n 1, 1) := by decide +kernel
set_option maxRecDepth 20000 in
theorem dL_law_488 : decode cL_law 488 = .ok (.invokevirtual 57, 3) := by decide +kernel
set_option maxRecDepth 20000 in
theorem dL_law_491 : decode cL_law 491 = .ok (.aload_n 2, 1) := by decide +kernel
set_option maxRecDepth 20000 in
theorem dL_law_492 : decode cL_law 492 = .ok (.invokevirtual 60, 3) := by decide +kernel
set_option maxRecDepth 20000 in
theorem dL_law_495 : decode cL_law 495 = .ok (.if_icmp .eq 530, 3) := by decide +kernel
set_option maxRecDepth 20000 in
theorem dL_law_498 : decode cL_law 498 = .ok (.iconst 0, 1) := by decide +kernel
set_option maxRecDepth 20000 in
theorem dL_law_499 : decode cL_law 499 = .ok (.ireturn, 1) := by decide +kernel
set_option maxRecDepth 20000 in
theorem dL_law_500 : decode cL_law 500 = .ok (.aload_n 1, 1) := by decide +kernel
set_option maxRecDepth 20000 in
theorem dL_law_501 : decode cL_law 501 = .ok (.aload_n 0, 1) := by decide +kernel
set_option maxRecDepth 20000 in
theorem dL_law_502 : decode cL_law 502 = .ok (.iload_n 3, 1) := by decide +kernel
set_option maxRecDepth 20000 in
theorem dL_law_503 : decode cL_law 503 = .ok (.iconst 1, 1) := by decide +kernel
set_option maxRecDepth 20000 in
theorem dL_law_504 : decode cL_law 504 = .ok (.iadd, 1) := by decide +kernel
set_option maxRecDepth 20000 in
theorem dL_law_505 : decode cL_law 505 = .ok (.iaload, 1) := by decide +kernel
set_option maxRecDepth 20000 in
theorem dL_law_506 : decode cL_law 506 = .ok (.invokevirtual 61, 3) := by decide +kernel
set_option maxRecDepth 20000 in
theorem dL_law_509 : decode cL_law 509 = .ok (.aload_n 2, 1) := by decide +kernel
set_option maxRecDepth 20000 in
theorem dL_law_510 : decode cL_law 510 = .ok (.aload_n 0, 1) := by decide +kernel
set_option maxRecDepth 20000 in
theorem dL_law_511 : decode cL_law 511 = .ok (.iload_n 3, 1) := by decide +kernel
set_option maxRecDepth 20000 in
theorem dL_law_512 : decode cL_law 512 = .ok (.iconst 1, 1) := by decide +kernel
set_option maxRecDepth 20000 in
theorem dL_law_513 : decode cL_law 513 = .ok (.iadd, 1) := by decide +kernel
set_option maxRecDepth 20000 in
theorem dL_law_514 : decode cL_law 514 = .ok (.iaload, 1) := by decide +kernel
set_option maxRecDepth 20000 in
theorem dL_law_515 : decode cL_law 515 = .ok (.invokevirtual 64, 3) := by decide +kernel
set_option maxRecDepth 20000 in
theorem dL_law_518 : decode cL_law 518 = .ok (.if_icmp .eq 507, 3) := by decide +kernel
set_option maxRecDepth 20000 in
theorem dL_law_521 : decode cL_law 521 = .ok (.iconst 0, 1) := by decide +kernel
set_option maxRecDepth 20000 in
theorem dL_law_522 : decode cL_law 522 = .ok (.ireturn, 1) := by decide +kernel
set_option maxRecDepth 20000 in
theorem dL_law_523 : decode cL_law 523 = .ok (.aload_n 1, 1) := by decide +kernel
set_option maxRecDepth 20000 in
theorem dL_law_524 : decode cL_law 524 = .ok (.invokevirtual 65, 3) := by decide +kernel
set_option maxRecDepth 20000 in
theorem dL_law_527 : decode cL_law 527 = .ok (.aload_n 2, 1) := by decide +kernel
set_option maxRecDepth 20000 in
theorem dL_law_528 : decode cL_law 528 = .ok (.invokevirtual 68, 3) := by decide +kernel
set_option maxRecDepth 20000 in
theorem dL_law_531 : decode cL_law 531 = .ok (.if_icmp .eq 494, 3) := by decide +kernel
set_option maxRecDepth 20000 in
theorem dL_law_534 : decode cL_law 534 = .ok (.iconst 0, 1) := by decide +kernel
set_option maxRecDepth 20000 in
theorem dL_law_535 : decode cL_law 535 = .ok (.ireturn, 1) := by decide +kernel
set_option maxRecDepth 20000 in
theorem dL_law_536 : decode cL_law 536 = .ok (.aload_n 1, 1) := by decide +kernel
set_option maxRecDepth 20000 in
theorem dL_law_537 : decode cL_law 537 = .ok (.aload_n 0, 1) := by decide +kernel
set_option maxRecDepth 20000 in
theorem dL_law_538 : decode cL_law 538 = .ok (.iload_n 3, 1) := by decide +kernel
set_option maxRecDepth 20000 in
theorem dL_law_539 : decode cL_law 539 = .ok (.iconst 1, 1) := by decide +kernel
set_option maxRecDepth 20000 in
theorem dL_law_540 : decode cL_law 540 = .ok (.iadd, 1) := by decide +kernel
set_option maxRecDepth 20000 in
theorem dL_law_541 : decode cL_law 541 = .ok (.iaload, 1) := by decide +kernel
set_option maxRecDepth 20000 in
theorem dL_law_542 : decode cL_law 542 = .ok (.aload_n 0, 1) := by decide +kernel
set_option maxRecDepth 20000 in
theorem dL_law_543 : decode cL_law 543 = .ok (.iload_n 3, 1) := by decide +kernel
set_option maxRecDepth 20000 in
theorem dL_law_544 : decode cL_law 544 = .ok (.iconst 2, 1) := by decide +kernel
set_option maxRecDepth 20000 in
theorem dL_law_545 : decode cL_law 545 = .ok (.iadd, 1) := by decide +kernel
set_option maxRecDepth 20000 in
theorem dL_law_546 : decode cL_law 546 = .ok (.iaload, 1) := by decide +kernel
set_option maxRecDepth 20000 in
theorem dL_law_547 : decode cL_law 547 = .ok (.invokevirtual 69, 3) := by decide +kernel
set_option maxRecDepth 20000 in
theorem dL_law_550 : decode cL_law 550 = .ok (.aload_n 2, 1) := by decide +kernel
set_option maxRecDepth 20000 in
theorem dL_law_551 : decode cL_law 551 = .ok (.aload_n 0, 1) := by decide +kernel
set_option maxRecDepth 20000 in
theorem dL_law_552 : decode cL_law 552 = .ok (.iload_n 3, 1) := by decide +kernel
set_option maxRecDepth 20000 in
theorem dL_law_553 : decode cL_law 553 = .ok (.iconst 1, 1) := by decide +kernel
set_option maxRecDepth 20000 in
theorem dL_law_554 : decode cL_law 554 = .ok (.iadd, 1) := by decide +kernel
set_option maxRecDepth 20000 in
theorem dL_law_555 : decode cL_law 555 = .ok (.iaload, 1) := by decide +kernel
set_option maxRecDepth 20000 in
theorem dL_law_556 : decode cL_law 556 = .ok (.aload_n 0, 1) := by decide +kernel
set_option maxRecDepth 20000 in
theorem dL_law_557 : decode cL_law 557 = .ok (.iload_n 3, 1) := by decide +kernel
set_option maxRecDepth 20000 in
theorem dL_law_558 : decode cL_law 558 = .ok (.iconst 2, 1) := by decide +kernel
set_option maxRecDepth 20000 in
theorem dL_law_559 : decode cL_law 559 = .ok (.iadd, 1) := by decide +kernel
set_option maxRecDepth 20000 in
theorem dL_law_560 : decode cL_law 560 = .ok (.iaload, 1) := by decide +kernel
set_option maxRecDepth 20000 in
theorem dL_law_561 : decode cL_law 561 = .ok (.invokevirtual 72, 3) := by decide +kernel
set_option maxRecDepth 20000 in
theorem dL_law_564 : decode cL_law 564 = .ok (.if_icmp .eq 461, 3) := by decide +kernel
set_option maxRecDepth 20000 in
theorem dL_law_567 : decode cL_law 567 = .ok (.iconst 0, 1) := by decide +kernel
set_option maxRecDepth 20000 in
theorem dL_law_568 : decode cL_law 568 = .ok (.ireturn, 1) := by decide +kernel
set_option maxRecDepth 20000 in
theorem dL_law_569 : decode cL_law 569 = .ok (.aload_n 1, 1) := by decide +kernel
set_option maxRecDepth 20000 in
theorem dL_law_570 : decode cL_law 570 = .ok (.aload_n 0, 1) := by decide +kernel
set_option maxRecDepth 20000 in
theorem dL_law_571 : decode cL_law 571 = .ok (.iload_n 3, 1) := by decide +kernel
set_option maxRecDepth 20000 in
theorem dL_law_572 : decode cL_law 572 = .ok (.iconst 1, 1) := by decide +kernel
set_option maxRecDepth 20000 in
theorem dL_law_573 : decode cL_law 573 = .ok (.iadd, 1) := by decide +kernel
set_option maxRecDepth 20000 in
theorem dL_law_574 : decode cL_law 574 = .ok (.iaload, 1) := by decide +kernel
set_option maxRecDepth 20000 in
theorem dL_law_575 : decode cL_law 575 = .ok (.aload_n 0, 1) := by decide +kernel
set_option maxRecDepth 20000 in
theorem dL_law_576 : decode cL_law 576 = .ok (.iload_n 3, 1) := by decide +kernel
set_option maxRecDepth 20000 in
theorem dL_law_577 : decode cL_law 577 = .ok (.iconst 2, 1) := by decide +kernel
set_option maxRecDepth 20000 in
theorem dL_law_578 : decode cL_law 578 = .ok (.iadd, 1) := by decide +kernel
set_option maxRecDepth 20000 in
theorem dL_law_579 : decode cL_law 579 = .ok (.iaload, 1) := by decide +kernel
set_option maxRecDepth 20000 in
theorem dL_law_580 : decode cL_law 580 = .ok (.invokevirtual 73, 3) := by decide +kernel
set_option maxRecDepth 20000 in
theorem dL_law_583 : decode cL_law 583 = .ok (.aload_n 2, 1) := by decide +kernel
set_option maxRecDepth 20000 in
theorem dL_law_584 : decode cL_law 584 = .ok (.aload_n 0, 1) := by decide +kernel
set_option maxRecDepth 20000 in
theorem dL_law_585 : decode cL_law 585 = .ok (.iload_n 3, 1) := by decide +kernel
set_option maxRecDepth 20000 in
theorem dL_law_586 : decode cL_law 586 = .ok (.iconst 1, 1) := by decide +kernel
set_option maxRecDepth 20000 in
theorem dL_law_587 : decode cL_law 587 = .ok (.iadd, 1) := by decide +kernel
set_option maxRecDepth 20000 in
theorem dL_law_588 : decode cL_law 588 = .ok (.iaload, 1) := by decide +kernel
set_option maxRecDepth 20000 in
theorem dL_law_589 : decode cL_law 589 = .ok (.aload_n 0, 1) := by decide +kernel
set_option maxRecDepth 20000 in
theorem dL_law_590 : decode cL_law 590 = .ok (.iload_n 3, 1) := by decide +kernel
set_option maxRecDepth 20000 in
theorem dL_law_591 : decode cL_law 591 = .ok (.iconst 2, 1) := by decide +kernel
set_option maxRecDepth 20000 in
theorem dL_law_592 : decode cL_law 592 = .ok (.iadd, 1) := by decide +kernel
set_option maxRecDepth 20000 in
theorem dL_law_593 : decode cL_law 593 = .ok (.iaload, 1) := by decide +kernel
set_option maxRecDepth 20000 in
theorem dL_law_594 : decode cL_law 594 = .ok (.invokevirtual 76, 3) := by decide +kernel
set_option maxRecDepth 20000 in
theorem dL_law_597 : decode cL_law 597 = .ok (.if_icmp .eq 428, 3) := by decide +kernel
set_option maxRecDepth 20000 in
theorem dL_law_600 : decode cL_law 600 = .ok (.iconst 0, 1) := by decide +kernel
set_option maxRecDepth 20000 in
theorem dL_law_601 : decode cL_law 601 = .ok (.ireturn, 1) := by decide +kernel
set_option maxRecDepth 20000 in
theorem dL_law_602 : decode cL_law 602 = .ok (.aload_n 1, 1) := by decide +kernel
set_option maxRecDepth 20000 in
theorem dL_law_603 : decode cL_law 603 = .ok (.aload_n 0, 1) := by decide +kernel
set_option maxRecDepth 20000 in
theorem dL_law_604 : decode cL_law 604 = .ok (.iload_n 3, 1) := by decide +kernel
set_option maxRecDepth 20000 in
theorem dL_law_605 : decode cL_law 605 = .ok (.iconst 1, 1) := by decide +kernel
set_option maxRecDepth 20000 in
theorem dL_law_606 : decode cL_law 606 = .ok (.iadd, 1) := by decide +kernel
set_option maxRecDepth 20000 in
theorem dL_law_607 : decode cL_law 607 = .ok (.iaload, 1) := by decide +kernel
set_option maxRecDepth 20000 in
theorem dL_law_608 : decode cL_law 608 = .ok (.aload_n 0, 1) := by decide +kernel
set_option maxRecDepth 20000 in
theorem dL_law_609 : decode cL_law 609 = .ok (.iload_n 3, 1) := by decide +kernel
set_option maxRecDepth 20000 in
theorem dL_law_610 : decode cL_law 610 = .ok (.iconst 2, 1) := by decide +kernel
set_option maxRecDepth 20000 in
theorem dL_law_611 : decode cL_law 611 = .ok (.iadd, 1) := by decide +kernel
set_option maxRecDepth 20000 in
theorem dL_law_612 : decode cL_law 612 = .ok (.iaload, 1) := by decide +kernel
set_option maxRecDepth 20000 in
theorem dL_law_613 : decode cL_law 613 = .ok (.invokevirtual 77, 3) := by decide +kernel
set_option maxRecDepth 20000 in
theorem dL_law_616 : decode cL_law 616 = .ok (.aload_n 2, 1) := by decide +kernel
set_option maxRecDepth 20000 in
theorem dL_law_617 : decode cL_law 617 = .ok (.aload_n 0, 1) := by decide +kernel
set_option maxRecDepth 20000 in
theorem dL_law_618 : decode cL_law 618 = .ok (.iload_n 3, 1) := by decide +kernel
set_option maxRecDepth 20000 in
theorem dL_law_619 : decode cL_law 619 = .ok (.iconst 1, 1) := by decide +kernel
set_option maxRecDepth 20000 in
theorem dL_law_620 : decode cL_law 620 = .ok (.iadd, 1) := by decide +kernel
set_option maxRecDepth 20000 in
theorem dL_law_621 : decode cL_law 621 = .ok (.iaload, 1) := by decide +kernel
set_option maxRecDepth 20000 in
theorem dL_law_622 : decode cL_law 622 = .ok (.aload_n 0, 1) := by decide +kernel
set_option maxRecDepth 20000 in
theorem dL_law_623 : decode cL_law 623 = .ok (.iload_n 3, 1) := by decide +kernel
set_option maxRecDepth 20000 in
theorem dL_law_624 : decode cL_law 624 = .ok (.iconst 2, 1) := by decide +kernel
set_option maxRecDepth 20000 in
theorem dL_law_625 : decode cL_law 625 = .ok (.iadd, 1) := by decide +kernel
set_option maxRecDepth 20000 in
theorem dL_law_626 : decode cL_law 626 = .ok (.iaload, 1) := by decide +kernel
set_option maxRecDepth 20000 in
theorem dL_law_627 : decode cL_law 627 = .ok (.invokevirtual 80, 3) := by decide +kernel
set_option maxRecDepth 20000 in
theorem dL_law_630 : decode cL_law 630 = .ok (.if_icmp .eq 395, 3) := by decide +kernel
set_option maxRecDepth 20000 in
theorem dL_law_633 : decode cL_law 633 = .ok (.iconst 0, 1) := by decide +kernel
set_option maxRecDepth 20000 in
theorem dL_law_634 : decode cL_law 634 = .ok (.ireturn, 1) := by decide +kernel
set_option maxRecDepth 20000 in
theorem dL_law_635 : decode cL_law 635 = .ok (.aload_n 1, 1) := by decide +kernel
set_option maxRecDepth 20000 in
theorem dL_law_636 : decode cL_law 636 = .ok (.aload_n 0, 1) := by decide +kernel
set_option maxRecDepth 20000 in
theorem dL_law_637 : decode cL_law 637 = .ok (.iload_n 3, 1) := by decide +kernel
set_option maxRecDepth 20000 in
theorem dL_law_638 : decode cL_law 638 = .ok (.iconst 1, 1) := by decide +kernel
set_option maxRecDepth 20000 in
theorem dL_law_639 : decode cL_law 639 = .ok (.iadd, 1) := by decide +kernel
set_option maxRecDepth 20000 in
theorem dL_law_640 : decode cL_law 640 = .ok (.iaload, 1) := by decide +kernel
set_option maxRecDepth 20000 in
theorem dL_law_641 : decode cL_law 641 = .ok (.aload_n 0, 1) := by decide +kernel
set_option maxRecDepth 20000 in
theorem dL_law_642 : decode cL_law 642 = .ok (.iload_n 3, 1) := by decide +kernel
set_option maxRecDepth 20000 in
theorem dL_law_643 : decode cL_law 643 = .ok (.iconst 2, 1) := by decide +kernel
set_option maxRecDepth 20000 in
theorem dL_law_644 : decode cL_law 644 = .ok (.iadd, 1) := by decide +kernel
set_option maxRecDepth 20000 in
theorem dL_law_645 : decode cL_law 645 = .ok (.iaload, 1) := by decide +kernel
set_option maxRecDepth 20000 in
theorem dL_law_646 : decode cL_law 646 = .ok (.invokevirtual 81, 3) := by decide +kernel
set_option maxRecDepth 20000 in
theorem dL_law_649 : decode cL_law 649 = .ok (.aload_n 2, 1) := by decide +kernel
set_option maxRecDepth 20000 in
theorem dL_law_650 : decode cL_law 650 = .ok (.aload_n 0, 1) := by decide +kernel
set_option maxRecDepth 20000 in
theorem dL_law_651 : decode cL_law 651 = .ok (.iload_n 3, 1) := by decide +kernel
set_option maxRecDepth 20000 in
theorem dL_law_652 : decode cL_law 652 = .ok (.iconst 1, 1) := by decide +kernel
set_option maxRecDepth 20000 in
theorem dL_law_653 : decode cL_law 653 = .ok (.iadd, 1) := by decide +kernel
set_option maxRecDepth 20000 in
theorem dL_law_654 : decode cL_law 654 = .ok (.iaload, 1) := by decide +kernel
set_option maxRecDepth 20000 in
theorem dL_law_655 : decode cL_law 655 = .ok (.aload_n 0, 1) := by decide +kernel
set_option maxRecDepth 20000 in
theorem dL_law_656 : decode cL_law 656 = .ok (.iload_n 3, 1) := by decide +kernel
set_option maxRecDepth 20000 in
theorem dL_law_657 : decode cL_law 657 = .ok (.iconst 2, 1) := by decide +kernel
set_option maxRecDepth 20000 in
theorem dL_law_658 : decode cL_law 658 = .ok (.iadd, 1) := by decide +kernel
set_option maxRecDepth 20000 in
theorem dL_law_659 : decode cL_law 659 = .ok (.iaload, 1) := by decide +kernel
set_option maxRecDepth 20000 in
theorem dL_law_660 : decode cL_law 660 = .ok (.invokevirtual 84, 3) := by decide +kernel
set_option maxRecDepth 20000 in
theorem dL_law_663 : decode cL_law 663 = .ok (.if_icmp .eq 362, 3) := by decide +kernel
set_option maxRecDepth 20000 in
theorem dL_law_666 : decode cL_law 666 = .ok (.iconst 0, 1) := by decide +kernel
set_option maxRecDepth 20000 in
theorem dL_law_667 : decode cL_law 667 = .ok (.ireturn, 1) := by decide +kernel
set_option maxRecDepth 20000 in
theorem dL_law_668 : decode cL_law 668 = .ok (.aload_n 1, 1) := by decide +kernel
set_option maxRecDepth 20000 in
theorem dL_law_669 : decode cL_law 669 = .ok (.aload_n 0, 1) := by decide +kernel
set_option maxRecDepth 20000 in
theorem dL_law_670 : decode cL_law 670 = .ok (.iload_n 3, 1) := by decide +kernel
set_option maxRecDepth 20000 in
theorem dL_law_671 : decode cL_law 671 = .ok (.iconst 1, 1) := by decide +kernel
set_option maxRecDepth 20000 in
theorem dL_law_672 : decode cL_law 672 = .ok (.iadd, 1) := by decide +kernel
set_option maxRecDepth 20000 in
theorem dL_law_673 : decode cL_law 673 = .ok (.iaload, 1) := by decide +kernel
set_option maxRecDepth 20000 in
theorem dL_law_674 : decode cL_law 674 = .ok (.aload_n 0, 1) := by decide +kernel
set_option maxRecDepth 20000 in
theorem dL_law_675 : decode cL_law 675 = .ok (.iload_n 3, 1) := by decide +kernel
set_option maxRecDepth 20000 in
theorem dL_law_676 : decode cL_law 676 = .ok (.iconst 2, 1) := by decide +kernel
set_option maxRecDepth 20000 in
theorem dL_law_677 : decode cL_law 677 = .ok (.iadd, 1) := by decide +kernel
set_option maxRecDepth 20000 in
theorem dL_law_678 : decode cL_law 678 = .ok (.iaload, 1) := by decide +kernel
set_option maxRecDepth 20000 in
theorem dL_law_679 : decode cL_law 679 = .ok (.invokevirtual 85, 3) := by decide +kernel
set_option maxRecDepth 20000 in
theorem dL_law_682 : decode cL_law 682 = .ok (.aload_n 2, 1) := by decide +kernel
set_option maxRecDepth 20000 in
theorem dL_law_683 : decode cL_law 683 = .ok (.aload_n 0, 1) := by decide +kernel
set_option maxRecDepth 20000 in
theorem dL_law_684 : decode cL_law 684 = .ok (.iload_n 3, 1) := by decide +kernel
set_option maxRecDepth 20000 in
theorem dL_law_685 : decode cL_law 685 = .ok (.iconst 1, 1) := by decide +kernel
set_option maxRecDepth 20000 in
theorem dL_law_686 : decode cL_law 686 = .ok (.iadd, 1) := by decide +kernel
set_option maxRecDepth 20000 in
theorem dL_law_687 : decode cL_law 687 = .ok (.iaload, 1) := by decide +kernel
set_option maxRecDepth 20000 in
theorem dL_law_688 : decode cL_law 688 = .ok (.aload_n 0, 1) := by decide +kernel
set_option maxRecDepth 20000 in
theorem dL_law_689 : decode cL_law 689 = .ok (.iload_n 3, 1) := by decide +kernel
set_option maxRecDepth 20000 in
theorem dL_law_690 : decode cL_law 690 = .ok (.iconst 2, 1) := by decide +kernel
set_option maxRecDepth 20000 in
theorem dL_law_691 : decode cL_law 691 = .ok (.iadd, 1) := by decide +kernel
set_option maxRecDepth 20000 in
theorem dL_law_692 : decode cL_law 692 = .ok (.iaload, 1) := by decide +kernel
set_option maxRecDepth 20000 in
theorem dL_law_693 : decode cL_law 693 = .ok (.invokevirtual 88, 3) := by decide +kernel
set_option maxRecDepth 20000 in
theorem dL_law_696 : decode cL_law 696 = .ok (.if_icmp .eq 329, 3) := by decide +kernel
set_option maxRecDepth 20000 in
theorem dL_law_699 : decode cL_law 699 = .ok (.iconst 0, 1) := by decide +kernel
set_option maxRecDepth 20000 in
theorem dL_law_700 : decode cL_law 700 = .ok (.ireturn, 1) := by decide +kernel
set_option maxRecDepth 20000 in
theorem dL_law_701 : decode cL_law 701 = .ok (.aload_n 1, 1) := by decide +kernel
set_option maxRecDepth 20000 in
theorem dL_law_702 : decode cL_law 702 = .ok (.aload_n 0, 1) := by decide +kernel
set_option maxRecDepth 20000 in
theorem dL_law_703 : decode cL_law 703 = .ok (.iload_n 3, 1) := by decide +kernel
set_option maxRecDepth 20000 in
theorem dL_law_704 : decode cL_law 704 = .ok (.iconst 1, 1) := by decide +kernel
set_option maxRecDepth 20000 in
theorem dL_law_705 : decode cL_law 705 = .ok (.iadd, 1) := by decide +kernel
set_option maxRecDepth 20000 in
theorem dL_law_706 : decode cL_law 706 = .ok (.iaload, 1) := by decide +kernel
set_option maxRecDepth 20000 in
theorem dL_law_707 : decode cL_law 707 = .ok (.aload_n 0, 1) := by decide +kernel
set_option maxRecDepth 20000 in
theorem dL_law_708 : decode cL_law 708 = .ok (.iload_n 3, 1) := by decide +kernel
set_option maxRecDepth 20000 in
theorem dL_law_709 : decode cL_law 709 = .ok (.iconst 2, 1) := by decide +kernel
set_option maxRecDepth 20000 in
theorem dL_law_710 : decode cL_law 710 = .ok (.iadd, 1) := by decide +kernel
set_option maxRecDepth 20000 in
theorem dL_law_711 : decode cL_law 711 = .ok (.iaload, 1) := by decide +kernel
set_option maxRecDepth 20000 in
theorem dL_law_712 : decode cL_law 712 = .ok (.aload_n 0, 1) := by decide +kernel
set_option maxRecDepth 20000 in
theorem dL_law_713 : decode cL_law 713 = .ok (.iload_n 3, 1) := by decide +kernel
set_option maxRecDepth 20000 in
theorem dL_law_714 : decode cL_law 714 = .ok (.iconst 3, 1) := by decide +kernel
set_option maxRecDepth 20000 in
theorem dL_law_715 : decode cL_law 715 = .ok (.iadd, 1) := by decide +kernel
set_option maxRecDepth 20000 in
theorem dL_law_716 : decode cL_law 716 = .ok (.iaload, 1) := by decide +kernel
set_option maxRecDepth 20000 in
theorem dL_law_717 : decode cL_law 717 = .ok (.aload_n 0, 1) := by decide +kernel
set_option maxRecDepth 20000 in
theorem dL_law_718 : decode cL_law 718 = .ok (.iload_n 3, 1) := by decide +kernel
set_option maxRecDepth 20000 in
theorem dL_law_719 : decode cL_law 719 = .ok (.iconst 4, 1) := by decide +kernel
set_option maxRecDepth 20000 in
theorem dL_law_720 : decode cL_law 720 = .ok (.iadd, 1) := by decide +kernel
set_option maxRecDepth 20000 in
theorem dL_law_721 : decode cL_law 721 = .ok (.iaload, 1) := by decide +kernel
set_option maxRecDepth 20000 in
theorem dL_law_722 : decode cL_law 722 = .ok (.invokevirtual 89, 3) := by decide +kernel
set_option maxRecDepth 20000 in
theorem dL_law_725 : decode cL_law 725 = .ok (.aload_n 2, 1) := by decide +kernel
set_option maxRecDepth 20000 in
theorem dL_law_726 : decode cL_law 726 = .ok (.aload_n 0, 1) := by decide +kernel
set_option maxRecDepth 20000 in
theorem dL_law_727 : decode cL_law 727 = .ok (.iload_n 3, 1) := by decide +kernel
set_option maxRecDepth 20000 in
theorem dL_law_728 : decode cL_law 728 = .ok (.iconst 1, 1) := by decide +kernel
set_option maxRecDepth 20000 in
theorem dL_law_729 : decode cL_law 729 = .ok (.iadd, 1) := by decide +kernel
set_option maxRecDepth 20000 in
theorem dL_law_730 : decode cL_law 730 = .ok (.iaload, 1) := by decide +kernel
set_option maxRecDepth 20000 in
theorem dL_law_731 : decode cL_law 731 = .ok (.aload_n 0, 1) := by decide +kernel
set_option maxRecDepth 20000 in
theorem dL_law_732 : decode cL_law 732 = .ok (.iload_n 3, 1) := by decide +kernel
set_option maxRecDepth 20000 in
theorem dL_law_733 : decode cL_law 733 = .ok (.iconst 2, 1) := by decide +kernel
set_option maxRecDepth 20000 in
theorem dL_law_734 : decode cL_law 734 = .ok (.iadd, 1) := by decide +kernel
set_option maxRecDepth 20000 in
theorem dL_law_735 : decode cL_law 735 = .ok (.iaload, 1) := by decide +kernel
set_option maxRecDepth 20000 in
theorem dL_law_736 : decode cL_law 736 = .ok (.aload_n 0, 1) := by decide +kernel
set_option maxRecDepth 20000 in
theorem dL_law_737 : decode cL_law 737 = .ok (.iload_n 3, 1) := by decide +kernel
set_option maxRecDepth 20000 in
theorem dL_law_738 : decode cL_law 738 = .ok (.iconst 3, 1) := by decide +kernel
set_option maxRecDepth 20000 in
theorem dL_law_739 : decode cL_law 739 = .ok (.iadd, 1) := by decide +kernel
set_option maxRecDepth 20000 in
theorem dL_law_740 : decode cL_law 740 = .ok (.iaload, 1) := by decide +kernel
set_option maxRecDepth 20000 in
theorem dL_law_741 : decode cL_law 741 = .ok (.aload_n 0, 1) := by decide +kernel
set_option maxRecDepth 20000 in
theorem dL_law_742 : decode cL_law 742 = .ok (.iload_n 3, 1) := by decide +kernel
set_option maxRecDepth 20000 in
theorem dL_law_743 : decode cL_law 743 = .ok (.iconst 4, 1) := by decide +kernel
set_option maxRecDepth 20000 in
theorem dL_law_744 : decode cL_law 744 = .ok (.iadd, 1) := by decide +kernel
set_option maxRecDepth 20000 in
theorem dL_law_745 : decode cL_law 745 = .ok (.iaload, 1) := by decide +kernel
set_option maxRecDepth 20000 in
theorem dL_law_746 : decode cL_law 746 = .ok (.invokevirtual 93, 3) := by decide +kernel
set_option maxRecDepth 20000 in
theorem dL_law_749 : decode cL_law 749 = .ok (.if_icmp .eq 276, 3) := by decide +kernel
set_option maxRecDepth 20000 in
theorem dL_law_752 : decode cL_law 752 = .ok (.iconst 0, 1) := by decide +kernel
set_option maxRecDepth 20000 in
theorem dL_law_753 : decode cL_law 753 = .ok (.ireturn, 1) := by decide +kernel
set_option maxRecDepth 20000 in
theorem dL_law_754 : decode cL_law 754 = .ok (.aload_n 1, 1) := by decide +kernel
set_option maxRecDepth 20000 in
theorem dL_law_755 : decode cL_law 755 = .ok (.invokevirtual 94, 3) := by decide +kernel
set_option maxRecDepth 20000 in
theorem dL_law_758 : decode cL_law 758 = .ok (.aload_n 2, 1) := by decide +kernel
set_option maxRecDepth 20000 in
theorem dL_law_759 : decode cL_law 759 = .ok (.invokevirtual 97, 3) := by decide +kernel
set_option maxRecDepth 20000 in
theorem dL_law_762 : decode cL_law 762 = .ok (.if_icmp .eq 263, 3) := by decide +kernel
set_option maxRecDepth 20000 in
theorem dL_law_765 : decode cL_law 765 = .ok (.iconst 0, 1) := by decide +kernel
set_option maxRecDepth 20000 in
theorem dL_law_766 : decode cL_law 766 = .ok (.ireturn, 1) := by decide +kernel
set_option maxRecDepth 20000 in
theorem dL_law_767 : decode cL_law 767 = .ok (.aload_n 1, 1) := by decide +kernel
set_option maxRecDepth 20000 in
theorem dL_law_768 : decode cL_law 768 = .ok (.aload_n 0, 1) := by decide +kernel
set_option maxRecDepth 20000 in
theorem dL_law_769 : decode cL_law 769 = .ok (.iload_n 3, 1) := by decide +kernel
set_option maxRecDepth 20000 in
theorem dL_law_770 : decode cL_law 770 = .ok (.iconst 1, 1) := by decide +kernel
set_option maxRecDepth 20000 in
theorem dL_law_771 : decode cL_law 771 = .ok (.iadd, 1) := by decide +kernel
set_option maxRecDepth 20000 in
theorem dL_law_772 : decode cL_law 772 = .ok (.iaload, 1) := by decide +kernel
set_option maxRecDepth 20000 in
theorem dL_law_773 : decode cL_law 773 = .ok (.invokevirtual 98, 3) := by decide +kernel
set_option maxRecDepth 20000 in
theorem dL_law_776 : decode cL_law 776 = .ok (.aload_n 2, 1) := by decide +kernel
set_option maxRecDepth 20000 in
theorem dL_law_777 : decode cL_law 777 = .ok (.aload_n 0, 1) := by decide +kernel
set_option maxRecDepth 20000 in
theorem dL_law_778 : decode cL_law 778 = .ok (.iload_n 3, 1) := by decide +kernel
set_option maxRecDepth 20000 in
theorem dL_law_779 : decode cL_law 779 = .ok (.iconst 1, 1) := by decide +kernel
set_option maxRecDepth 20000 in
theorem dL_law_780 : decode cL_law 780 = .ok (.iadd, 1) := by decide +kernel
set_option maxRecDepth 20000 in
theorem dL_law_781 : decode cL_law 781 = .ok (.iaload, 1) := by decide +kernel
set_option maxRecDepth 20000 in
theorem dL_law_782 : decode cL_law 782 = .ok (.invokevirtual 101, 3) := by decide +kernel
set_option maxRecDepth 20000 in
theorem dL_law_785 : decode cL_law 785 = .ok (.if_icmp .eq 240, 3) := by decide +kernel
set_option maxRecDepth 20000 in
theorem dL_law_788 : decode cL_law 788 = .ok (.iconst 0, 1) := by decide +kernel
set_option maxRecDepth 20000 in
theorem dL_law_789 : decode cL_law 789 = .ok (.ireturn, 1) := by decide +kernel
set_option maxRecDepth 20000 in
theorem dL_law_790 : decode cL_law 790 = .ok (.aload_n 1, 1) := by decide +kernel
set_option maxRecDepth 20000 in
theorem dL_law_791 : decode cL_law 791 = .ok (.aload_n 0, 1) := by decide +kernel
set_option maxRecDepth 20000 in
theorem dL_law_792 : decode cL_law 792 = .ok (.iload_n 3, 1) := by decide +kernel
set_option maxRecDepth 20000 in
theorem dL_law_793 : decode cL_law 793 = .ok (.iconst 1, 1) := by decide +kernel
set_option maxRecDepth 20000 in
theorem dL_law_794 : decode cL_law 794 = .ok (.iadd, 1) := by decide +kernel
set_option maxRecDepth 20000 in
theorem dL_law_795 : decode cL_law 795 = .ok (.iaload, 1) := by decide +kernel
set_option maxRecDepth 20000 in
theorem dL_law_796 : decode cL_law 796 = .ok (.aload_n 0, 1) := by decide +kernel
set_option maxRecDepth 20000 in
theorem dL_law_797 : decode cL_law 797 = .ok (.iload_n 3, 1) := by decide +kernel
set_option maxRecDepth 20000 in
theorem dL_law_798 : decode cL_law 798 = .ok (.iconst 2, 1) := by decide +kernel
set_option maxRecDepth 20000 in
theorem dL_law_799 : decode cL_law 799 = .ok (.iadd, 1) := by decide +kernel
set_option maxRecDepth 20000 in
theorem dL_law_800 : decode cL_law 800 = .ok (.iaload, 1) := by decide +kernel
set_option maxRecDepth 20000 in
theorem dL_law_801 : decode cL_law 801 = .ok (.aload_n 0, 1) := by decide +kernel
set_option maxRecDepth 20000 in
theorem dL_law_802 : decode cL_law 802 = .ok (.iload_n 3, 1) := by decide +kernel
set_option maxRecDepth 20000 in
theorem dL_law_803 : decode cL_law 803 = .ok (.iconst 3, 1) := by decide +kernel
set_option maxRecDepth 20000 in
theorem dL_law_804 : decode cL_law 804 = .ok (.iadd, 1) := by decide +kernel
set_option maxRecDepth 20000 in
theorem dL_law_805 : decode cL_law 805 = .ok (.iaload, 1) := by decide +kernel
set_option maxRecDepth 20000 in
theorem dL_law_806 : decode cL_law 806 = .ok (.aload_n 0, 1) := by decide +kernel
set_option maxRecDepth 20000 in
theorem dL_law_807 : decode cL_law 807 = .ok (.iload_n 3, 1) := by decide +kernel
set_option maxRecDepth 20000 in
theorem dL_law_808 : decode cL_law 808 = .ok (.iconst 4, 1) := by decide +kernel
set_option maxRecDepth 20000 in
theorem dL_law_809 : decode cL_law 809 = .ok (.iadd, 1) := by decide +kernel
set_option maxRecDepth 20000 in
theorem dL_law_810 : decode cL_law 810 = .ok (.iaload, 1) := by decide +kernel
set_option maxRecDepth 20000 in
theorem dL_law_811 : decode cL_law 811 = .ok (.invokevirtual 102, 3) := by decide +kernel
set_option maxRecDepth 20000 in
theorem dL_law_814 : decode cL_law 814 = .ok (.aload_n 2, 1) := by decide +kernel
set_option maxRecDepth 20000 in
theorem dL_law_815 : decode cL_law 815 = .ok (.aload_n 0, 1) := by decide +kernel
set_option maxRecDepth 20000 in
theorem dL_law_816 : decode cL_law 816 = .ok (.iload_n 3, 1) := by decide +kernel
set_option maxRecDepth 20000 in
theorem dL_law_817 : decode cL_law 817 = .ok (.iconst 1, 1) := by decide +kernel
set_option maxRecDepth 20000 in
theorem dL_law_818 : decode cL_law 818 = .ok (.iadd, 1) := by decide +kernel
set_option maxRecDepth 20000 in
theorem dL_law_819 : decode cL_law 819 = .ok (.iaload, 1) := by decide +kernel
set_option maxRecDepth 20000 in
theorem dL_law_820 : decode cL_law 820 = .ok (.aload_n 0, 1) := by decide +kernel
set_option maxRecDepth 20000 in
theorem dL_law_821 : decode cL_law 821 = .ok (.iload_n 3, 1) := by decide +kernel
set_option maxRecDepth 20000 in
theorem dL_law_822 : decode cL_law 822 = .ok (.iconst 2, 1) := by decide +kernel
set_option maxRecDepth 20000 in
theorem dL_law_823 : decode cL_law 823 = .ok (.iadd, 1) := by decide +kernel
set_option maxRecDepth 20000 in
theorem dL_law_824 : decode cL_law 824 = .ok (.iaload, 1) := by decide +kernel
set_option maxRecDepth 20000 in
theorem dL_law_825 : decode cL_law 825 = .ok (.aload_n 0, 1) := by decide +kernel
set_option maxRecDepth 20000 in
theorem dL_law_826 : decode cL_law 826 = .ok (.iload_n 3, 1) := by decide +kernel
set_option maxRecDepth 20000 in
theorem dL_law_827 : decode cL_law 827 = .ok (.iconst 3, 1) := by decide +kernel
set_option maxRecDepth 20000 in
theorem dL_law_828 : decode cL_law 828 = .ok (.iadd, 1) := by decide +kernel
set_option maxRecDepth 20000 in
theorem dL_law_829 : decode cL_law 829 = .ok (.iaload, 1) := by decide +kernel
set_option maxRecDepth 20000 in
theorem dL_law_830 : decode cL_law 830 = .ok (.aload_n 0, 1) := by decide +kernel
set_option maxRecDepth 20000 in
theorem dL_law_831 : decode cL_law 831 = .ok (.iload_n 3, 1) := by decide +kernel
set_option maxRecDepth 20000 in
theorem dL_law_832 : decode cL_law 832 = .ok (.iconst 4, 1) := by decide +kernel
set_option maxRecDepth 20000 in
theorem dL_law_833 : decode cL_law 833 = .ok (.iadd, 1) := by decide +kernel
set_option maxRecDepth 20000 in
theorem dL_law_834 : decode cL_law 834 = .ok (.iaload, 1) := by decide +kernel
set_option maxRecDepth 20000 in
theorem dL_law_835 : decode cL_law 835 = .ok (.invokevirtual 105, 3) := by decide +kernel
set_option maxRecDepth 20000 in
theorem dL_law_838 : decode cL_law 838 = .ok (.if_icmp .eq 187, 3) := by decide +kernel
set_option maxRecDepth 20000 in
theorem dL_law_841 : decode cL_law 841 = .ok (.iconst 0, 1) := by decide +kernel
set_option maxRecDepth 20000 in
theorem dL_law_842 : decode cL_law 842 = .ok (.ireturn, 1) := by decide +kernel
set_option maxRecDepth 20000 in
theorem dL_law_843 : decode cL_law 843 = .ok (.aload_n 1, 1) := by decide +kernel
set_option maxRecDepth 20000 in
theorem dL_law_844 : decode cL_law 844 = .ok (.invokevirtual 106, 3) := by decide +kernel
set_option maxRecDepth 20000 in
theorem dL_law_847 : decode cL_law 847 = .ok (.aload_n 2, 1) := by decide +kernel
set_option maxRecDepth 20000 in
theorem dL_law_848 : decode cL_law 848 = .ok (.invokevirtual 109, 3) := by decide +kernel
set_option maxRecDepth 20000 in
theorem dL_law_851 : decode cL_law 851 = .ok (.if_icmp .eq 174, 3) := by decide +kernel
set_option maxRecDepth 20000 in
theorem dL_law_854 : decode cL_law 854 = .ok (.iconst 0, 1) := by decide +kernel
set_option maxRecDepth 20000 in
theorem dL_law_855 : decode cL_law 855 = .ok (.ireturn, 1) := by decide +kernel
set_option maxRecDepth 20000 in
theorem dL_law_856 : decode cL_law 856 = .ok (.aload_n 1, 1) := by decide +kernel
set_option maxRecDepth 20000 in
theorem dL_law_857 : decode cL_law 857 = .ok (.aload_n 0, 1) := by decide +kernel
set_option maxRecDepth 20000 in
theorem dL_law_858 : decode cL_law 858 = .ok (.iload_n 3, 1) := by decide +kernel
set_option maxRecDepth 20000 in
theorem dL_law_859 : decode cL_law 859 = .ok (.iconst 1, 1) := by decide +kernel
set_option maxRecDepth 20000 in
theorem dL_law_860 : decode cL_law 860 = .ok (.iadd, 1) := by decide +kernel
set_option maxRecDepth 20000 in
theorem dL_law_861 : decode cL_law 861 = .ok (.iaload, 1) := by decide +kernel
set_option maxRecDepth 20000 in
theorem dL_law_862 : decode cL_law 862 = .ok (.aload_n 0, 1) := by decide +kernel
set_option maxRecDepth 20000 in
theorem dL_law_863 : decode cL_law 863 = .ok (.iload_n 3, 1) := by decide +kernel
set_option maxRecDepth 20000 in
theorem dL_law_864 : decode cL_law 864 = .ok (.iconst 2, 1) := by decide +kernel
set_option maxRecDepth 20000 in
theorem dL_law_865 : decode cL_law 865 = .ok (.iadd, 1) := by decide +kernel
set_option maxRecDepth 20000 in
theorem dL_law_866 : decode cL_law 866 = .ok (.iaload, 1) := by decide +kernel
set_option maxRecDepth 20000 in
theorem dL_law_867 : decode cL_law 867 = .ok (.aload_n 0, 1) := by decide +kernel
set_option maxRecDepth 20000 in
theorem dL_law_868 : decode cL_law 868 = .ok (.iload_n 3, 1) := by decide +kernel
set_option maxRecDepth 20000 in
theorem dL_law_869 : decode cL_law 869 = .ok (.iconst 3, 1) := by decide +kernel
set_option maxRecDepth 20000 in
theorem dL_law_870 : decode cL_law 870 = .ok (.iadd, 1) := by decide +kernel
set_option maxRecDepth 20000 in
theorem dL_law_871 : decode cL_law 871 = .ok (.iaload, 1) := by decide +kernel
set_option maxRecDepth 20000 in
theorem dL_law_872 : decode cL_law 872 = .ok (.aload_n 0, 1) := by decide +kernel
set_option maxRecDepth 20000 in
theorem dL_law_873 : decode cL_law 873 = .ok (.iload_n 3, 1) := by decide +kernel
set_option maxRecDepth 20000 in
theorem dL_law_874 : decode cL_law 874 = .ok (.iconst 4, 1) := by decide +kernel
set_option maxRecDepth 20000 in
theorem dL_law_875 : decode cL_law 875 = .ok (.iadd, 1) := by decide +kernel
set_option maxRecDepth 20000 in
theorem dL_law_876 : decode cL_law 876 = .ok (.iaload, 1) := by decide +kernel
set_option maxRecDepth 20000 in
theorem dL_law_877 : decode cL_law 877 = .ok (.invokevirtual 110, 3) := by decide +kernel
set_option maxRecDepth 20000 in
theorem dL_law_880 : decode cL_law 880 = .ok (.aload_n 2, 1) := by decide +kernel
set_option maxRecDepth 20000 in
theorem dL_law_881 : decode cL_law 881 = .ok (.aload_n 0, 1) := by decide +kernel
set_option maxRecDepth 20000 in
theorem dL_law_882 : decode cL_law 882 = .ok (.iload_n 3, 1) := by decide +kernel
set_option maxRecDepth 20000 in
theorem dL_law_883 : decode cL_law 883 = .ok (.iconst 1, 1) := by decide +kernel
set_option maxRecDepth 20000 in
theorem dL_law_884 : decode cL_law 884 = .ok (.iadd, 1) := by decide +kernel
set_option maxRecDepth 20000 in
theorem dL_law_885 : decode cL_law 885 = .ok (.iaload, 1) := by decide +kernel
set_option maxRecDepth 20000 in
theorem dL_law_886 : decode cL_law 886 = .ok (.aload_n 0, 1) := by decide +kernel
set_option maxRecDepth 20000 in
theorem dL_law_887 : decode cL_law 887 = .ok (.iload_n 3, 1) := by decide +kernel
set_option maxRecDepth 20000 in
theorem dL_law_888 : decode cL_law 888 = .ok (.iconst 2, 1) := by decide +kernel
set_option maxRecDepth 20000 in
theorem dL_law_889 : decode cL_law 889 = .ok (.iadd, 1) := by decide +kernel
set_option maxRecDepth 20000 in
theorem dL_law_890 : decode cL_law 890 = .ok (.iaload, 1) := by decide +kernel
set_option maxRecDepth 20000 in
theorem dL_law_891 : decode cL_law 891 = .ok (.aload_n 0, 1) := by decide +kernel
set_option maxRecDepth 20000 in
theorem dL_law_892 : decode cL_law 892 = .ok (.iload_n 3, 1) := by decide +kernel
set_option maxRecDepth 20000 in
theorem dL_law_893 : decode cL_law 893 = .ok (.iconst 3, 1) := by decide +kernel
set_option maxRecDepth 20000 in
theorem dL_law_894 : decode cL_law 894 = .ok (.iadd, 1) := by decide +kernel
set_option maxRecDepth 20000 in
theorem dL_law_895 : decode cL_law 895 = .ok (.iaload, 1) := by decide +kernel
set_option maxRecDepth 20000 in
theorem dL_law_896 : decode cL_law 896 = .ok (.aload_n 0, 1) := by decide +kernel
set_option maxRecDepth 20000 in
theorem dL_law_897 : decode cL_law 897 = .ok (.iload_n 3, 1) := by decide +kernel
set_option maxRecDepth 20000 in
theorem dL_law_898 : decode cL_law 898 = .ok (.iconst 4, 1) := by decide +kernel
set_option maxRecDepth 20000 in
theorem dL_law_899 : decode cL_law 899 = .ok (.iadd, 1) := by decide +kernel
set_option maxRecDepth 20000 in
theorem dL_law_900 : decode cL_law 900 = .ok (.iaload, 1) := by decide +kernel
set_option maxRecDepth 20000 in
theorem dL_law_901 : decode cL_law 901 = .ok (.invokevirtual 113, 3) := by decide +kernel
set_option maxRecDepth 20000 in
theorem dL_law_904 : decode cL_law 904 = .ok (.if_icmp .eq 121, 3) := by decide +kernel
set_option maxRecDepth 20000 in
theorem dL_law_907 : decode cL_law 907 = .ok (.iconst 0, 1) := by decide +kernel
set_option maxRecDepth 20000 in
theorem dL_law_908 : decode cL_law 908 = .ok (.ireturn, 1) := by decide +kernel
set_option maxRecDepth 20000 in
theorem dL_law_909 : decode cL_law 909 = .ok (.aload_n 1, 1) := by decide +kernel
set_option maxRecDepth 20000 in
theorem dL_law_910 : decode cL_law 910 = .ok (.aload_n 0, 1) := by decide +kernel
set_option maxRecDepth 20000 in
theorem dL_law_911 : decode cL_law 911 = .ok (.iload_n 3, 1) := by decide +kernel
set_option maxRecDepth 20000 in
theorem dL_law_912 : decode cL_law 912 = .ok (.iconst 1, 1) := by decide +kernel
set_option maxRecDepth 20000 in
theorem dL_law_913 : decode cL_law 913 = .ok (.iadd, 1) := by decide +kernel
set_option maxRecDepth 20000 in
theorem dL_law_914 : decode cL_law 914 = .ok (.iaload, 1) := by decide +kernel
set_option maxRecDepth 20000 in
theorem dL_law_915 : decode cL_law 915 = .ok (.aload_n 0, 1) := by decide +kernel
set_option maxRecDepth 20000 in
theorem dL_law_916 : decode cL_law 916 = .ok (.iload_n 3, 1) := by decide +kernel
set_option maxRecDepth 20000 in
theorem dL_law_917 : decode cL_law 917 = .ok (.iconst 2, 1) := by decide +kernel
set_option maxRecDepth 20000 in
theorem dL_law_918 : decode cL_law 918 = .ok (.iadd, 1) := by decide +kernel
set_option maxRecDepth 20000 in
theorem dL_law_919 : decode cL_law 919 = .ok (.iaload, 1) := by decide +kernel
set_option maxRecDepth 20000 in
theorem dL_law_920 : decode cL_law 920 = .ok (.invokevirtual 114, 3) := by decide +kernel
set_option maxRecDepth 20000 in
theorem dL_law_923 : decode cL_law 923 = .ok (.aload_n 2, 1) := by decide +kernel
set_option maxRecDepth 20000 in
theorem dL_law_924 : decode cL_law 924 = .ok (.aload_n 0, 1) := by decide +kernel
set_option maxRecDepth 20000 in
theorem dL_law_925 : decode cL_law 925 = .ok (.iload_n 3, 1) := by decide +kernel
set_option maxRecDepth 20000 in
theorem dL_law_926 : decode cL_law 926 = .ok (.iconst 1, 1) := by decide +kernel
set_option maxRecDepth 20000 in
theorem dL_law_927 : decode cL_law 927 = .ok (.iadd, 1) := by decide +kernel
set_option maxRecDepth 20000 in
theorem dL_law_928 : decode cL_law 928 = .ok (.iaload, 1) := by decide +kernel
set_option maxRecDepth 20000 in
theorem dL_law_929 : decode cL_law 929 = .ok (.aload_n 0, 1) := by decide +kernel
set_option maxRecDepth 20000 in
theorem dL_law_930 : decode cL_law 930 = .ok (.iload_n 3, 1) := by decide +kernel
set_option maxRecDepth 20000 in
theorem dL_law_931 : decode cL_law 931 = .ok (.iconst 2, 1) := by decide +kernel
set_option maxRecDepth 20000 in
theorem dL_law_932 : decode cL_law 932 = .ok (.iadd, 1) := by decide +kernel
set_option maxRecDepth 20000 in
theorem dL_law_933 : decode cL_law 933 = .ok (.iaload, 1) := by decide +kernel
set_option maxRecDepth 20000 in
theorem dL_law_934 : decode cL_law 934 = .ok (.invokevirtual 117, 3) := by decide +kernel
set_option maxRecDepth 20000 in
theorem dL_law_937 : decode cL_law 937 = .ok (.if_icmp .eq 88, 3) := by decide +kernel
set_option maxRecDepth 20000 in
theorem dL_law_940 : decode cL_law 940 = .ok (.iconst 0, 1) := by decide +kernel
set_option maxRecDepth 20000 in
theorem dL_law_941 : decode cL_law 941 = .ok (.ireturn, 1) := by decide +kernel
set_option maxRecDepth 20000 in
theorem dL_law_942 : decode cL_law 942 = .ok (.aload_n 1, 1) := by decide +kernel
set_option maxRecDepth 20000 in
theorem dL_law_943 : decode cL_law 943 = .ok (.aload_n 0, 1) := by decide +kernel
set_option maxRecDepth 20000 in
theorem dL_law_944 : decode cL_law 944 = .ok (.iload_n 3, 1) := by decide +kernel
set_option maxRecDepth 20000 in
theorem dL_law_945 : decode cL_law 945 = .ok (.iconst 1, 1) := by decide +kernel
set_option maxRecDepth 20000 in
theorem dL_law_946 : decode cL_law 946 = .ok (.iadd, 1) := by decide +kernel
set_option maxRecDepth 20000 in
theorem dL_law_947 : decode cL_law 947 = .ok (.iaload, 1) := by decide +kernel
set_option maxRecDepth 20000 in
theorem dL_law_948 : decode cL_law 948 = .ok (.invokevirtual 118, 3) := by decide +kernel
set_option maxRecDepth 20000 in
theorem dL_law_951 : decode cL_law 951 = .ok (.aload_n 2, 1) := by decide +kernel
set_option maxRecDepth 20000 in
theorem dL_law_952 : decode cL_law 952 = .ok (.aload_n 0, 1) := by decide +kernel
set_option maxRecDepth 20000 in
theorem dL_law_953 : decode cL_law 953 = .ok (.iload_n 3, 1) := by decide +kernel
set_option maxRecDepth 20000 in
theorem dL_law_954 : decode cL_law 954 = .ok (.iconst 1, 1) := by decide +kernel
set_option maxRecDepth 20000 in
theorem dL_law_955 : decode cL_law 955 = .ok (.iadd, 1) := by decide +kernel
set_option maxRecDepth 20000 in
theorem dL_law_956 : decode cL_law 956 = .ok (.iaload, 1) := by decide +kernel
set_option maxRecDepth 20000 in
theorem dL_law_957 : decode cL_law 957 = .ok (.invokevirtual 121, 3) := by decide +kernel
set_option maxRecDepth 20000 in
theorem dL_law_960 : decode cL_law 960 = .ok (.if_icmp .eq 65, 3) := by decide +kernel
set_option maxRecDepth 20000 in
theorem dL_law_963 : decode cL_law 963 = .ok (.iconst 0, 1) := by decide +kernel
set_option maxRecDepth 20000 in
theorem dL_law_964 : decode cL_law 964 = .ok (.ireturn, 1) := by decide +kernel
set_option maxRecDepth 20000 in
theorem dL_law_965 : decode cL_law 965 = .ok (.aload_n 1, 1) := by decide +kernel
set_option maxRecDepth 20000 in
theorem dL_law_966 : decode cL_law 966 = .ok (.aload_n 0, 1) := by decide +kernel
set_option maxRecDepth 20000 in
theorem dL_law_967 : decode cL_law 967 = .ok (.iload_n 3, 1) := by decide +kernel
set_option maxRecDepth 20000 in
theorem dL_law_968 : decode cL_law 968 = .ok (.iconst 1, 1) := by decide +kernel
set_option maxRecDepth 20000 in
theorem dL_law_969 : decode cL_law 969 = .ok (.iadd, 1) := by decide +kernel
set_option maxRecDepth 20000 in
theorem dL_law_970 : decode cL_law 970 = .ok (.iaload, 1) := by decide +kernel
set_option maxRecDepth 20000 in
theorem dL_law_971 : decode cL_law 971 = .ok (.invokevirtual 122, 3) := by decide +kernel
set_option maxRecDepth 20000 in
theorem dL_law_974 : decode cL_law 974 = .ok (.aload_n 2, 1) := by decide +kernel
set_option maxRecDepth 20000 in
theorem dL_law_975 : decode cL_law 975 = .ok (.aload_n 0, 1) := by decide +kernel
set_option maxRecDepth 20000 in
theorem dL_law_976 : decode cL_law 976 = .ok (.iload_n 3, 1) := by decide +kernel
set_option maxRecDepth 20000 in
theorem dL_law_977 : decode cL_law 977 = .ok (.iconst 1, 1) := by decide +kernel
set_option maxRecDepth 20000 in
theorem dL_law_978 : decode cL_law 978 = .ok (.iadd, 1) := by decide +kernel
set_option maxRecDepth 20000 in
theorem dL_law_979 : decode cL_law 979 = .ok (.iaload, 1) := by decide +kernel
set_option maxRecDepth 20000 in
theorem dL_law_980 : decode cL_law 980 = .ok (.invokevirtual 125, 3) := by decide +kernel
set_option maxRecDepth 20000 in
theorem dL_law_983 : decode cL_law 983 = .ok (.if_icmp .eq 42, 3) := by decide +kernel
set_option maxRecDepth 20000 in
theorem dL_law_986 : decode cL_law 986 = .ok (.iconst 0, 1) := by decide +kernel
set_option maxRecDepth 20000 in
theorem dL_law_987 : decode cL_law 987 = .ok (.ireturn, 1) := by decide +kernel
set_option maxRecDepth 20000 in
theorem dL_law_988 : decode cL_law 988 = .ok (.aload_n 1, 1) := by decide +kernel
set_option maxRecDepth 20000 in
theorem dL_law_989 : decode cL_law 989 = .ok (.aload_n 0, 1) := by decide +kernel
set_option maxRecDepth 20000 in
theorem dL_law_990 : decode cL_law 990 = .ok (.iload_n 3, 1) := by decide +kernel
set_option maxRecDepth 20000 in
theorem dL_law_991 : decode cL_law 991 = .ok (.iconst 1, 1) := by decide +kernel
set_option maxRecDepth 20000 in
theorem dL_law_992 : decode cL_law 992 = .ok (.iadd, 1) := by decide +kernel
set_option maxRecDepth 20000 in
theorem dL_law_993 : decode cL_law 993 = .ok (.iaload, 1) := by decide +kernel
set_option maxRecDepth 20000 in
theorem dL_law_994 : decode cL_law 994 = .ok (.invokevirtual 126, 3) := by decide +kernel
set_option maxRecDepth 20000 in
theorem dL_law_997 : decode cL_law 997 = .ok (.aload_n 2, 1) := by decide +kernel
set_option maxRecDepth 20000 in
theorem dL_law_998 : decode cL_law 998 = .ok (.aload_n 0, 1) := by decide +kernel
set_option maxRecDepth 20000 in
theorem dL_law_999 : decode cL_law 999 = .ok (.iload_n 3, 1) := by decide +kernel
set_option maxRecDepth 20000 in
theorem dL_law_1000 : decode cL_law 1000 = .ok (.iconst 1, 1) := by decide +kernel
set_option maxRecDepth 20000 in
theorem dL_law_1001 : decode cL_law 1001 = .ok (.iadd, 1) := by decide +kernel
set_option maxRecDepth 20000 in
theorem dL_law_1002 : decode cL_law 1002 = .ok (.iaload, 1) := by decide +kernel
set_option maxRecDepth 20000 in
theorem dL_law_1003 : decode cL_law 1003 = .ok (.invokevirtual 129, 3) := by decide +kernel
set_option maxRecDepth 20000 in
theorem dL_law_1006 : decode cL_law 1006 = .ok (.if_icmp .eq 19, 3) := by decide +kernel
set_option maxRecDepth 20000 in
theorem dL_law_1009 : decode cL_law 1009 = .ok (.iconst 0, 1) := by decide +kernel
set_option maxRecDepth 20000 in
theorem dL_law_1010 : decode cL_law 1010 = .ok (.ireturn, 1) := by decide +kernel
set_option maxRecDepth 20000 in
theorem dL_law_1011 : decode cL_law 1011 = .ok (.aload_n 1, 1) := by decide +kernel
set_option maxRecDepth 20000 in
theorem dL_law_1012 : decode cL_law 1012 = .ok (.invokevirtual 130, 3) := by decide +kernel
set_option maxRecDepth 20000 in
theorem dL_law_1015 : decode cL_law 1015 = .ok (.aload_n 2, 1) := by decide +kernel
set_option maxRecDepth 20000 in
theorem dL_law_1016 : decode cL_law 1016 = .ok (.invokevirtual 134, 3) := by decide +kernel
set_option maxRecDepth 20000 in
theorem dL_law_1019 : decode cL_law 1019 = .ok (.lcmp, 1) := by decide +kernel
set_option maxRecDepth 20000 in
theorem dL_law_1020 : decode cL_law 1020 = .ok (.ifCond .eq 5, 3) := by decide +kernel
set_option maxRecDepth 20000 in
theorem dL_law_1023 : decode cL_law 1023 = .ok (.iconst 0, 1) := by decide +kernel
set_option maxRecDepth 20000 in
theorem dL_law_1024 : decode cL_law 1024 = .ok (.ireturn, 1) := by decide +kernel
set_option maxRecDepth 20000 in
theorem dL_law_1025 : decode cL_law 1025 = .ok (.iinc 3 6, 3) := by decide +kernel
set_option maxRecDepth 20000 in
theorem dL_law_1028 : decode cL_law 1028 = .ok (.goto (-1010), 3) := by decide +kernel
set_option maxRecDepth 20000 in
theorem dL_law_1031 : decode cL_law 1031 = .ok (.iconst 1, 1) := by decide +kernel
set_option maxRecDepth 20000 in
theorem dL_law_1032 : decode cL_law 1032 = .ok (.ireturn, 1) := by decide +kernel
end
section
def WT : List Cond := lw_tbl.filter goodWord
theorem wt_of {i : Nat} {w : Cond} (h : lw_tbl[i]? = some w) (g : goodWord w = true) : w ∈ WT := List.mem_filter.mpr ⟨List.mem_of_getElem? h, g⟩
theorem wt_0 : Cond.selects RX2 yX2_beginAnew yX2_beginAnew ∈ WT := wt_of (i := 0) (by decide +kernel) (by decide +kernel)
theorem wt_1 : Cond.selects RX2 yX2_readToken yX2_readToken ∈ WT := wt_of (i := 1) (by decide +kernel) (by decide +kernel)
theorem wt_2 : Cond.selects RX2 yX2_readDigits yX2_readDigits ∈ WT := wt_of (i := 2) (by decide +kernel) (by decide +kernel)
theorem wt_3 : Cond.selects RX2 yX2_readLetters yX2_readLetters ∈ WT := wt_of (i := 3) (by decide +kernel) (by decide +kernel)
theorem wt_4 : Cond.selects RX2 yX2_isWord yX2_isWord ∈ WT := wt_of (i := 4) (by decide +kernel) (by decide +kernel)
theorem wt_5 : Cond.selects RX2 yX2_readsLoad yX2_readsLoad ∈ WT := wt_of (i := 5) (by decide +kernel) (by decide +kernel)
theorem wt_6 : Cond.selects RX2 yX2_readsNumber yX2_readsNumber ∈ WT := wt_of (i := 6) (by decide +kernel) (by decide +kernel)
theorem wt_7 : Cond.selects RX2 yX2_readsEndOfItem yX2_readsEndOfItem ∈ WT := wt_of (i := 7) (by decide +kernel) (by decide +kernel)
theorem wt_8 : Cond.selects RX2 yX2_readsTaster yX2_readsTaster ∈ WT := wt_of (i := 8) (by decide +kernel) (by decide +kernel)
theorem wt_9 : Cond.selects RX2 yX2_readsHeat yX2_readsHeat ∈ WT := wt_of (i := 9) (by decide +kernel) (by decide +kernel)
theorem wt_10 : Cond.selects RX4 yX4_isLoad yX4_isLoad ∈ WT := wt_of (i := 10) (by decide +kernel) (by decide +kernel)
theorem wt_11 : Cond.selects RX4 yX4_isTaster yX4_isTaster ∈ WT := wt_of (i := 11) (by decide +kernel) (by decide +kernel)
theorem wt_12 : Cond.selects RX4 yX4_facts yX4_facts ∈ WT := wt_of (i := 12) (by decide +kernel) (by decide +kernel)
theorem wt_13 : Cond.selects RX4 yX4_thirst yX4_thirst ∈ WT := wt_of (i := 13) (by decide +kernel) (by decide +kernel)
theorem wt_14 : Cond.selects RX4 yX4_addFact yX4_addFact ∈ WT := wt_of (i := 14) (by decide +kernel) (by decide +kernel)
theorem wt_15 : Cond.selects RX4 yX4_addLick yX4_addLick ∈ WT := wt_of (i := 15) (by decide +kernel) (by decide +kernel)
theorem wt_16 : Cond.selects RX4 yX4_fact yX4_fact ∈ WT := wt_of (i := 16) (by decide +kernel) (by decide +kernel)
theorem wt_17 : Cond.selects RX4 yX4_greatestOf yX4_greatestOf ∈ WT := wt_of (i := 17) (by decide +kernel) (by decide +kernel)
theorem wt_18 : Cond.selects RX4 yX4_canWeigh yX4_canWeigh ∈ WT := wt_of (i := 18) (by decide +kernel) (by decide +kernel)
theorem wt_19 : Cond.selects RX4 yX4_drinksIn yX4_drinksIn ∈ WT := wt_of (i := 19) (by decide +kernel) (by decide +kernel)
theorem wt_20 : Cond.selects RX4 yX4_leastOf yX4_leastOf ∈ WT := wt_of (i := 20) (by decide +kernel) (by decide +kernel)
theorem wt_21 : Cond.selects RX4 yX4_leftAtWorst yX4_leftAtWorst ∈ WT := wt_of (i := 21) (by decide +kernel) (by decide +kernel)
theorem wt_22 : Cond.selects RX4 yX4_endOfSpan yX4_endOfSpan ∈ WT := wt_of (i := 22) (by decide +kernel) (by decide +kernel)
theorem wt_23 : Cond.selects RX4 yX4_isEnough yX4_isEnough ∈ WT := wt_of (i := 23) (by decide +kernel) (by decide +kernel)
theorem wt_24 : Cond.selects RX4 yX4_isEnoughBy yX4_isEnoughBy ∈ WT := wt_of (i := 24) (by decide +kernel) (by decide +kernel)
theorem wt_25 : Cond.selects RX4 yX4_toldTastings yX4_toldTastings ∈ WT := wt_of (i := 25) (by decide +kernel) (by decide +kernel)
theorem wt_26 : Cond.selects RX4 yX4_isAsTold yX4_isAsTold ∈ WT := wt_of (i := 26) (by decide +kernel) (by decide +kernel)
theorem wt_27 : Cond.selects RX4 yX4_markOfTaster yX4_markOfTaster ∈ WT := wt_of (i := 27) (by decide +kernel) (by decide +kernel)
theorem wt_28 : Cond.selects RX4 yX4_markOfCamel yX4_markOfCamel ∈ WT := wt_of (i := 28) (by decide +kernel) (by decide +kernel)
theorem wt_29 : Cond.selects RX4 yX4_markOfChild yX4_markOfChild ∈ WT := wt_of (i := 29) (by decide +kernel) (by decide +kernel)
theorem wt_30 : Cond.selects RX4 yX4_markOfFeverish yX4_markOfFeverish ∈ WT := wt_of (i := 30) (by decide +kernel) (by decide +kernel)
theorem wt_31 : Cond.selects RX4 yX4_markOfInspector yX4_markOfInspector ∈ WT := wt_of (i := 31) (by decide +kernel) (by decide +kernel)
theorem wt_32 : Cond.selects RX4 yX4_markOfWell yX4_markOfWell ∈ WT := wt_of (i := 32) (by decide +kernel) (by decide +kernel)
theorem wt_33 : Cond.selects RX4 yX4_imageAt yX4_imageAt ∈ WT := wt_of (i := 33) (by decide +kernel) (by decide +kernel)
theorem wt_34 : Cond.selects RX5 yX5_step yX5_step ∈ WT := wt_of (i := 34) (by decide +kernel) (by decide +kernel)
theorem wt_35 : Cond.selects RX5 yX5_here yX5_here ∈ WT := wt_of (i := 35) (by decide +kernel) (by decide +kernel)
theorem wt_36 : Cond.selects RX5 yX5_readItem yX5_readItem ∈ WT := wt_of (i := 36) (by decide +kernel) (by decide +kernel)
theorem wt_37 : Cond.selects RX5 yX5_due yX5_due ∈ WT := wt_of (i := 37) (by decide +kernel) (by decide +kernel)
theorem wt_38 : Cond.selects RX5 yX5_number yX5_number ∈ WT := wt_of (i := 38) (by decide +kernel) (by decide +kernel)
theorem wt_39 : Cond.selects RX5 yX5_isLoad yX5_isLoad ∈ WT := wt_of (i := 39) (by decide +kernel) (by decide +kernel)
theorem wt_40 : Cond.selects RX5 yX5_isTaster yX5_isTaster ∈ WT := wt_of (i := 40) (by decide +kernel) (by decide +kernel)
theorem wt_41 : Cond.selects RX5 yX5_cupsOf yX5_cupsOf ∈ WT := wt_of (i := 41) (by decide +kernel) (by decide +kernel)
theorem wt_42 : Cond.selects RX5 yX5_know yX5_know ∈ WT := wt_of (i := 42) (by decide +kernel) (by decide +kernel)
theorem wt_43 : Cond.selects RX5 yX5_canBeOf yX5_canBeOf ∈ WT := wt_of (i := 43) (by decide +kernel) (by decide +kernel)
theorem wt_44 : Cond.selects RX5 yX5_worst yX5_worst ∈ WT := wt_of (i := 44) (by decide +kernel) (by decide +kernel)
theorem wt_45 : Cond.selects RX5 yX5_part yX5_part ∈ WT := wt_of (i := 45) (by decide +kernel) (by decide +kernel)
theorem wt_46 : Cond.selects RX5 yX5_isEnoughByOne yX5_isEnoughByOne ∈ WT := wt_of (i := 46) (by decide +kernel) (by decide +kernel)
theorem wt_47 : Cond.selects RX5 yX5_isEnoughByTwo yX5_isEnoughByTwo ∈ WT := wt_of (i := 47) (by decide +kernel) (by decide +kernel)
theorem wt_48 : Cond.selects RX5 yX5_isEnoughByThree yX5_isEnoughByThree ∈ WT := wt_of (i := 48) (by decide +kernel) (by decide +kernel)
theorem wt_49 : Cond.selects RX5 yX5_isAsTold yX5_isAsTold ∈ WT := wt_of (i := 49) (by decide +kernel) (by decide +kernel)
theorem wt_50 : Cond.selects RX5 yX5_copy yX5_copy ∈ WT := wt_of (i := 50) (by decide +kernel) (by decide +kernel)
theorem wt_51 : Cond.initialized RL ∈ WT := wt_of (i := 51) (by decide +kernel) (by decide +kernel)
theorem wt_52 : Cond.initialized RX4 ∈ WT := wt_of (i := 52) (by decide +kernel) (by decide +kernel)
theorem wt_53 : Cond.initialized RX2 ∈ WT := wt_of (i := 53) (by decide +kernel) (by decide +kernel)
theorem wt_54 : Cond.initialized RX3 ∈ WT := wt_of (i := 54) (by decide +kernel) (by decide +kernel)
theorem wt_55 : Cond.initialized RJ9 ∈ WT := wt_of (i := 55) (by decide +kernel) (by decide +kernel)
theorem wt_56 : Cond.initialized RX1 ∈ WT := wt_of (i := 56) (by decide +kernel) (by decide +kernel)
theorem wt_57 : Cond.initialized RX5 ∈ WT := wt_of (i := 57) (by decide +kernel) (by decide +kernel)
theorem wt_58 : Cond.initialized RJ0 ∈ WT := wt_of (i := 58) (by decide +kernel) (by decide +kernel)
theorem wt_59 : Cond.initialized RJ1 ∈ WT := wt_of (i := 59) (by decide +kernel) (by decide +kernel)
theorem wt_60 : Cond.initialized RJ3 ∈ WT := wt_of (i := 60) (by decide +kernel) (by decide +kernel)
theorem wt_61 : Cond.initialized RJ2 ∈ WT := wt_of (i := 61) (by decide +kernel) (by decide +kernel)
theorem wt_62 : Cond.initialized RX0 ∈ WT := wt_of (i := 62) (by decide +kernel) (by decide +kernel)
theorem wt_63 : Cond.classLink RL 7 "ThirstScales" ∈ WT := wt_of (i := 63) (by decide +kernel) (by decide +kernel)
theorem wt_64 : Cond.instantiable RX4 10 ∈ WT := wt_of (i := 64) (by decide +kernel) (by decide +kernel)
theorem wt_65 : Cond.methodLink RL 9 yX4_init ∈ WT := wt_of (i := 65) (by decide +kernel) (by decide +kernel)
theorem wt_66 : Cond.instanceMethod yX4_init ∈ WT := wt_of (i := 66) (by decide +kernel) (by decide +kernel)
theorem wt_67 : Cond.code yX4_init cX4_init 1 (Option.none : Option FieldType) ∈ WT := wt_of (i := 67) (by decide +kernel) (by decide +kernel)
theorem wt_68 : Cond.methodLink RX4 1 objectInit ∈ WT := wt_of (i := 68) (by decide +kernel) (by decide +kernel)
theorem wt_69 : Cond.instanceMethod objectInit ∈ WT := wt_of (i := 69) (by decide +kernel) (by decide +kernel)
theorem wt_70 : Cond.code objectInit ⟨#[0xb1]⟩ 1 (Option.none : Option FieldType) ∈ WT := wt_of (i := 70) (by decide +kernel) (by decide +kernel)
theorem wt_71 : Cond.classLink RX4 7 "ThirstScales$Reader" ∈ WT := wt_of (i := 71) (by decide +kernel) (by decide +kernel)
theorem wt_72 : Cond.instantiable RX2 11 ∈ WT := wt_of (i := 72) (by decide +kernel) (by decide +kernel)
theorem wt_74 : Cond.instanceMethod yX2_init ∈ WT := wt_of (i := 74) (by decide +kernel) (by decide +kernel)
theorem wt_75 : Cond.code yX2_init cX2_init 1 (Option.none : Option FieldType) ∈ WT := wt_of (i := 75) (by decide +kernel) (by decide +kernel)
theorem wt_76 : Cond.methodLink RX2 3 objectInit ∈ WT := wt_of (i := 76) (by decide +kernel) (by decide +kernel)
theorem wt_77 : Cond.classLink RX2 9 "ThirstScales$Row" ∈ WT := wt_of (i := 77) (by decide +kernel) (by decide +kernel)
theorem wt_78 : Cond.instantiable RX3 2 ∈ WT := wt_of (i := 78) (by decide +kernel) (by decide +kernel)
theorem wt_79 : Cond.methodLink RX2 11 yX3_init ∈ WT := wt_of (i := 79) (by decide +kernel) (by decide +kernel)
theorem wt_80 : Cond.instanceMethod yX3_init ∈ WT := wt_of (i := 80) (by decide +kernel) (by decide +kernel)
theorem wt_81 : Cond.code yX3_init cX3_init 2 (Option.none : Option FieldType) ∈ WT := wt_of (i := 81) (by decide +kernel) (by decide +kernel)
theorem wt_82 : Cond.methodLink RX3 1 objectInit ∈ WT := wt_of (i := 82) (by decide +kernel) (by decide +kernel)
theorem wt_83 : Cond.methodLink RX3 13 Lib.Math.max.name ∈ WT := wt_of (i := 83) (by decide +kernel) (by decide +kernel)
theorem wt_84 : Cond.static Lib.Math.max.name ∈ WT := wt_of (i := 84) (by decide +kernel) (by decide +kernel)
theorem wt_85 : Cond.code Lib.Math.max.name Lib.Math.max.code 2 (Option.some FieldType.int) ∈ WT := wt_of (i := 85) (by decide +kernel) (by decide +kernel)
theorem wt_86 : Cond.fieldLink RX3 19 "ThirstScales$Row" "cells" "[I" ∈ WT := wt_of (i := 86) (by decide +kernel) (by decide +kernel)
theorem wt_87 : Cond.fieldLink RX3 7 "ThirstScales$Row" "used" "I" ∈ WT := wt_of (i := 87) (by decide +kernel) (by decide +kernel)
theorem wt_88 : Cond.laysFinal "ThirstScales$Row" "ThirstScales$Row" "cells" "[I" ∈ WT := wt_of (i := 88) (by decide +kernel) (by decide +kernel)
theorem wt_89 : Cond.soleField "ThirstScales$Row" "cells" ∈ WT := wt_of (i := 89) (by decide +kernel) (by decide +kernel)
theorem wt_90 : Cond.lays "ThirstScales$Row" "ThirstScales$Row" "used" "I" ∈ WT := wt_of (i := 90) (by decide +kernel) (by decide +kernel)
theorem wt_91 : Cond.soleField "ThirstScales$Row" "used" ∈ WT := wt_of (i := 91) (by decide +kernel) (by decide +kernel)
theorem wt_92 : Cond.superclass "ThirstScales$Row" "java/lang/Object" ∈ WT := wt_of (i := 92) (by decide +kernel) (by decide +kernel)
theorem wt_93 : Cond.arrayClass FieldType.int ∈ WT := wt_of (i := 93) (by decide +kernel) (by decide +kernel)
theorem wt_94 : Cond.fieldLink RX2 14 "ThirstScales$Reader" "text" "LThirstScales$Row;" ∈ WT := wt_of (i := 94) (by decide +kernel) (by decide +kernel)
theorem wt_95 : Cond.fieldLink RX4 59 "ThirstScales$Reader" "text" "LThirstScales$Row;" ∈ WT := wt_of (i := 95) (by decide +kernel) (by decide +kernel)
theorem wt_96 : Cond.fieldLink RX2 20 "ThirstScales$Reader" "weights" "LThirstScales$Row;" ∈ WT := wt_of (i := 96) (by decide +kernel) (by decide +kernel)
theorem wt_97 : Cond.fieldLink RX4 81 "ThirstScales$Reader" "weights" "LThirstScales$Row;" ∈ WT := wt_of (i := 97) (by decide +kernel) (by decide +kernel)
theorem wt_98 : Cond.fieldLink RX2 23 "ThirstScales$Reader" "laws" "LThirstScales$Row;" ∈ WT := wt_of (i := 98) (by decide +kernel) (by decide +kernel)
theorem wt_99 : Cond.fieldLink RX4 86 "ThirstScales$Reader" "laws" "LThirstScales$Row;" ∈ WT := wt_of (i := 99) (by decide +kernel) (by decide +kernel)
theorem wt_100 : Cond.fieldLink RX2 26 "ThirstScales$Reader" "warmth" "I" ∈ WT := wt_of (i := 100) (by decide +kernel) (by decide +kernel)
theorem wt_101 : Cond.fieldLink RX4 87 "ThirstScales$Reader" "warmth" "I" ∈ WT := wt_of (i := 101) (by decide +kernel) (by decide +kernel)
theorem wt_102 : Cond.fieldLink RX2 30 "ThirstScales$Reader" "items" "I" ∈ WT := wt_of (i := 102) (by decide +kernel) (by decide +kernel)
theorem wt_103 : Cond.fieldLink RX4 95 "ThirstScales$Reader" "items" "I" ∈ WT := wt_of (i := 103) (by decide +kernel) (by decide +kernel)
theorem wt_104 : Cond.fieldLink RX2 35 "ThirstScales$Reader" "parts" "LThirstScales$Row;" ∈ WT := wt_of (i := 104) (by decide +kernel) (by decide +kernel)
theorem wt_105 : Cond.fieldLink RX2 38 "ThirstScales$Reader" "heatIsTold" "Z" ∈ WT := wt_of (i := 105) (by decide +kernel) (by decide +kernel)
theorem wt_106 : Cond.fieldLink RX2 42 "ThirstScales$Reader" "place" "I" ∈ WT := wt_of (i := 106) (by decide +kernel) (by decide +kernel)
theorem wt_107 : Cond.fieldLink RX2 45 "ThirstScales$Reader" "start" "I" ∈ WT := wt_of (i := 107) (by decide +kernel) (by decide +kernel)
theorem wt_108 : Cond.fieldLink RX2 48 "ThirstScales$Reader" "token" "I" ∈ WT := wt_of (i := 108) (by decide +kernel) (by decide +kernel)
theorem wt_109 : Cond.fieldLink RX2 51 "ThirstScales$Reader" "value" "I" ∈ WT := wt_of (i := 109) (by decide +kernel) (by decide +kernel)
theorem wt_110 : Cond.laysFinal "ThirstScales$Reader" "ThirstScales$Reader" "text" "LThirstScales$Row;" ∈ WT := wt_of (i := 110) (by decide +kernel) (by decide +kernel)
theorem wt_111 : Cond.soleField "ThirstScales$Reader" "text" ∈ WT := wt_of (i := 111) (by decide +kernel) (by decide +kernel)
theorem wt_112 : Cond.laysFinal "ThirstScales$Reader" "ThirstScales$Reader" "weights" "LThirstScales$Row;" ∈ WT := wt_of (i := 112) (by decide +kernel) (by decide +kernel)
theorem wt_113 : Cond.soleField "ThirstScales$Reader" "weights" ∈ WT := wt_of (i := 113) (by decide +kernel) (by decide +kernel)
theorem wt_114 : Cond.laysFinal "ThirstScales$Reader" "ThirstScales$Reader" "laws" "LThirstScales$Row;" ∈ WT := wt_of (i := 114) (by decide +kernel) (by decide +kernel)
theorem wt_115 : Cond.soleField "ThirstScales$Reader" "laws" ∈ WT := wt_of (i := 115) (by decide +kernel) (by decide +kernel)
theorem wt_116 : Cond.lays "ThirstScales$Reader" "ThirstScales$Reader" "warmth" "I" ∈ WT := wt_of (i := 116) (by decide +kernel) (by decide +kernel)
theorem wt_117 : Cond.soleField "ThirstScales$Reader" "warmth" ∈ WT := wt_of (i := 117) (by decide +kernel) (by decide +kernel)
theorem wt_118 : Cond.lays "ThirstScales$Reader" "ThirstScales$Reader" "items" "I" ∈ WT := wt_of (i := 118) (by decide +kernel) (by decide +kernel)
theorem wt_119 : Cond.soleField "ThirstScales$Reader" "items" ∈ WT := wt_of (i := 119) (by decide +kernel) (by decide +kernel)
theorem wt_120 : Cond.laysFinal "ThirstScales$Reader" "ThirstScales$Reader" "parts" "LThirstScales$Row;" ∈ WT := wt_of (i := 120) (by decide +kernel) (by decide +kernel)
theorem wt_121 : Cond.soleField "ThirstScales$Reader" "parts" ∈ WT := wt_of (i := 121) (by decide +kernel) (by decide +kernel)
theorem wt_122 : Cond.lays "ThirstScales$Reader" "ThirstScales$Reader" "heatIsTold" "Z" ∈ WT := wt_of (i := 122) (by decide +kernel) (by decide +kernel)
theorem wt_123 : Cond.soleField "ThirstScales$Reader" "heatIsTold" ∈ WT := wt_of (i := 123) (by decide +kernel) (by decide +kernel)
theorem wt_124 : Cond.lays "ThirstScales$Reader" "ThirstScales$Reader" "place" "I" ∈ WT := wt_of (i := 124) (by decide +kernel) (by decide +kernel)
theorem wt_125 : Cond.soleField "ThirstScales$Reader" "place" ∈ WT := wt_of (i := 125) (by decide +kernel) (by decide +kernel)
theorem wt_126 : Cond.lays "ThirstScales$Reader" "ThirstScales$Reader" "start" "I" ∈ WT := wt_of (i := 126) (by decide +kernel) (by decide +kernel)
theorem wt_127 : Cond.soleField "ThirstScales$Reader" "start" ∈ WT := wt_of (i := 127) (by decide +kernel) (by decide +kernel)
theorem wt_128 : Cond.lays "ThirstScales$Reader" "ThirstScales$Reader" "token" "I" ∈ WT := wt_of (i := 128) (by decide +kernel) (by decide +kernel)
theorem wt_129 : Cond.soleField "ThirstScales$Reader" "token" ∈ WT := wt_of (i := 129) (by decide +kernel) (by decide +kernel)
theorem wt_130 : Cond.lays "ThirstScales$Reader" "ThirstScales$Reader" "value" "I" ∈ WT := wt_of (i := 130) (by decide +kernel) (by decide +kernel)
theorem wt_131 : Cond.soleField "ThirstScales$Reader" "value" ∈ WT := wt_of (i := 131) (by decide +kernel) (by decide +kernel)
theorem wt_132 : Cond.superclass "ThirstScales$Reader" "java/lang/Object" ∈ WT := wt_of (i := 132) (by decide +kernel) (by decide +kernel)
theorem wt_133 : Cond.classLink RX4 16 "ThirstScales$Row" ∈ WT := wt_of (i := 133) (by decide +kernel) (by decide +kernel)
theorem wt_134 : Cond.methodLink RX4 18 yX3_init ∈ WT := wt_of (i := 134) (by decide +kernel) (by decide +kernel)
theorem wt_135 : Cond.classLink RX4 31 "ThirstScales$Now" ∈ WT := wt_of (i := 135) (by decide +kernel) (by decide +kernel)
theorem wt_136 : Cond.instantiable RX1 3 ∈ WT := wt_of (i := 136) (by decide +kernel) (by decide +kernel)
theorem wt_138 : Cond.instanceMethod yX1_init ∈ WT := wt_of (i := 138) (by decide +kernel) (by decide +kernel)
theorem wt_139 : Cond.code yX1_init cX1_init 1 (Option.none : Option FieldType) ∈ WT := wt_of (i := 139) (by decide +kernel) (by decide +kernel)
theorem wt_140 : Cond.methodLink RX1 3 objectInit ∈ WT := wt_of (i := 140) (by decide +kernel) (by decide +kernel)
theorem wt_141 : Cond.classLink RX1 9 "ThirstScales$Row" ∈ WT := wt_of (i := 141) (by decide +kernel) (by decide +kernel)
theorem wt_142 : Cond.methodLink RX1 11 yX3_init ∈ WT := wt_of (i := 142) (by decide +kernel) (by decide +kernel)
theorem wt_143 : Cond.fieldLink RX1 14 "ThirstScales$Now" "licks" "LThirstScales$Row;" ∈ WT := wt_of (i := 143) (by decide +kernel) (by decide +kernel)
theorem wt_144 : Cond.fieldLink RX4 109 "ThirstScales$Now" "licks" "LThirstScales$Row;" ∈ WT := wt_of (i := 144) (by decide +kernel) (by decide +kernel)
theorem wt_145 : Cond.fieldLink RX1 20 "ThirstScales$Now" "facts" "LThirstScales$Row;" ∈ WT := wt_of (i := 145) (by decide +kernel) (by decide +kernel)
theorem wt_146 : Cond.fieldLink RX4 153 "ThirstScales$Now" "facts" "LThirstScales$Row;" ∈ WT := wt_of (i := 146) (by decide +kernel) (by decide +kernel)
theorem wt_147 : Cond.fieldLink RX1 23 "ThirstScales$Now" "warmth" "I" ∈ WT := wt_of (i := 147) (by decide +kernel) (by decide +kernel)
theorem wt_148 : Cond.fieldLink RX4 121 "ThirstScales$Now" "warmth" "I" ∈ WT := wt_of (i := 148) (by decide +kernel) (by decide +kernel)
theorem wt_149 : Cond.laysFinal "ThirstScales$Now" "ThirstScales$Now" "licks" "LThirstScales$Row;" ∈ WT := wt_of (i := 149) (by decide +kernel) (by decide +kernel)
theorem wt_150 : Cond.soleField "ThirstScales$Now" "licks" ∈ WT := wt_of (i := 150) (by decide +kernel) (by decide +kernel)
theorem wt_151 : Cond.laysFinal "ThirstScales$Now" "ThirstScales$Now" "facts" "LThirstScales$Row;" ∈ WT := wt_of (i := 151) (by decide +kernel) (by decide +kernel)
theorem wt_152 : Cond.soleField "ThirstScales$Now" "facts" ∈ WT := wt_of (i := 152) (by decide +kernel) (by decide +kernel)
theorem wt_153 : Cond.lays "ThirstScales$Now" "ThirstScales$Now" "warmth" "I" ∈ WT := wt_of (i := 153) (by decide +kernel) (by decide +kernel)
theorem wt_154 : Cond.soleField "ThirstScales$Now" "warmth" ∈ WT := wt_of (i := 154) (by decide +kernel) (by decide +kernel)
theorem wt_155 : Cond.superclass "ThirstScales$Now" "java/lang/Object" ∈ WT := wt_of (i := 155) (by decide +kernel) (by decide +kernel)
theorem wt_156 : Cond.fieldLink RX4 10 "ThirstScales" "reader" "LThirstScales$Reader;" ∈ WT := wt_of (i := 156) (by decide +kernel) (by decide +kernel)
theorem wt_157 : Cond.fieldLink RX4 21 "ThirstScales" "weights" "LThirstScales$Row;" ∈ WT := wt_of (i := 157) (by decide +kernel) (by decide +kernel)
theorem wt_158 : Cond.fieldLink RX4 25 "ThirstScales" "laws" "LThirstScales$Row;" ∈ WT := wt_of (i := 158) (by decide +kernel) (by decide +kernel)
theorem wt_159 : Cond.fieldLink RX4 28 "ThirstScales" "tastings" "LThirstScales$Row;" ∈ WT := wt_of (i := 159) (by decide +kernel) (by decide +kernel)
theorem wt_160 : Cond.fieldLink RX4 34 "ThirstScales" "now" "LThirstScales$Now;" ∈ WT := wt_of (i := 160) (by decide +kernel) (by decide +kernel)
theorem wt_161 : Cond.fieldLink RX4 38 "ThirstScales" "firstImage" "LThirstScales$Now;" ∈ WT := wt_of (i := 161) (by decide +kernel) (by decide +kernel)
theorem wt_162 : Cond.fieldLink RX4 41 "ThirstScales" "secondImage" "LThirstScales$Now;" ∈ WT := wt_of (i := 162) (by decide +kernel) (by decide +kernel)
theorem wt_163 : Cond.fieldLink RX4 44 "ThirstScales" "firstIsKept" "Z" ∈ WT := wt_of (i := 163) (by decide +kernel) (by decide +kernel)
theorem wt_164 : Cond.fieldLink RX4 48 "ThirstScales" "secondIsKept" "Z" ∈ WT := wt_of (i := 164) (by decide +kernel) (by decide +kernel)
theorem wt_165 : Cond.fieldLink RX4 51 "ThirstScales" "marksAsked" "J" ∈ WT := wt_of (i := 165) (by decide +kernel) (by decide +kernel)
theorem wt_166 : Cond.laysFinal "ThirstScales" "ThirstScales" "reader" "LThirstScales$Reader;" ∈ WT := wt_of (i := 166) (by decide +kernel) (by decide +kernel)
theorem wt_167 : Cond.soleField "ThirstScales" "reader" ∈ WT := wt_of (i := 167) (by decide +kernel) (by decide +kernel)
theorem wt_168 : Cond.laysFinal "ThirstScales" "ThirstScales" "weights" "LThirstScales$Row;" ∈ WT := wt_of (i := 168) (by decide +kernel) (by decide +kernel)
theorem wt_169 : Cond.soleField "ThirstScales" "weights" ∈ WT := wt_of (i := 169) (by decide +kernel) (by decide +kernel)
theorem wt_170 : Cond.laysFinal "ThirstScales" "ThirstScales" "laws" "LThirstScales$Row;" ∈ WT := wt_of (i := 170) (by decide +kernel) (by decide +kernel)
theorem wt_171 : Cond.soleField "ThirstScales" "laws" ∈ WT := wt_of (i := 171) (by decide +kernel) (by decide +kernel)
theorem wt_172 : Cond.laysFinal "ThirstScales" "ThirstScales" "tastings" "LThirstScales$Row;" ∈ WT := wt_of (i := 172) (by decide +kernel) (by decide +kernel)
theorem wt_173 : Cond.soleField "ThirstScales" "tastings" ∈ WT := wt_of (i := 173) (by decide +kernel) (by decide +kernel)
theorem wt_174 : Cond.laysFinal "ThirstScales" "ThirstScales" "now" "LThirstScales$Now;" ∈ WT := wt_of (i := 174) (by decide +kernel) (by decide +kernel)
theorem wt_175 : Cond.soleField "ThirstScales" "now" ∈ WT := wt_of (i := 175) (by decide +kernel) (by decide +kernel)
theorem wt_176 : Cond.laysFinal "ThirstScales" "ThirstScales" "firstImage" "LThirstScales$Now;" ∈ WT := wt_of (i := 176) (by decide +kernel) (by decide +kernel)
theorem wt_177 : Cond.soleField "ThirstScales" "firstImage" ∈ WT := wt_of (i := 177) (by decide +kernel) (by decide +kernel)
theorem wt_178 : Cond.laysFinal "ThirstScales" "ThirstScales" "secondImage" "LThirstScales$Now;" ∈ WT := wt_of (i := 178) (by decide +kernel) (by decide +kernel)
theorem wt_179 : Cond.soleField "ThirstScales" "secondImage" ∈ WT := wt_of (i := 179) (by decide +kernel) (by decide +kernel)
theorem wt_180 : Cond.lays "ThirstScales" "ThirstScales" "firstIsKept" "Z" ∈ WT := wt_of (i := 180) (by decide +kernel) (by decide +kernel)
theorem wt_181 : Cond.soleField "ThirstScales" "firstIsKept" ∈ WT := wt_of (i := 181) (by decide +kernel) (by decide +kernel)
theorem wt_182 : Cond.lays "ThirstScales" "ThirstScales" "secondIsKept" "Z" ∈ WT := wt_of (i := 182) (by decide +kernel) (by decide +kernel)
theorem wt_183 : Cond.soleField "ThirstScales" "secondIsKept" ∈ WT := wt_of (i := 183) (by decide +kernel) (by decide +kernel)
theorem wt_184 : Cond.lays "ThirstScales" "ThirstScales" "marksAsked" "J" ∈ WT := wt_of (i := 184) (by decide +kernel) (by decide +kernel)
theorem wt_185 : Cond.soleField "ThirstScales" "marksAsked" ∈ WT := wt_of (i := 185) (by decide +kernel) (by decide +kernel)
theorem wt_186 : Cond.superclass "ThirstScales" "java/lang/Object" ∈ WT := wt_of (i := 186) (by decide +kernel) (by decide +kernel)
theorem wt_187 : Cond.methodLink RL 15 yX4_type ∈ WT := wt_of (i := 187) (by decide +kernel) (by decide +kernel)
theorem wt_188 : Cond.instanceMethod yX4_type ∈ WT := wt_of (i := 188) (by decide +kernel) (by decide +kernel)
theorem wt_189 : Cond.selects RX4 yX4_type yX4_type ∈ WT := wt_of (i := 189) (by decide +kernel) (by decide +kernel)
theorem wt_190 : Cond.code yX4_type cX4_type 5 (Option.some FieldType.int) ∈ WT := wt_of (i := 190) (by decide +kernel) (by decide +kernel)
theorem wt_191 : Cond.methodLink RX4 55 yX4_isWithin ∈ WT := wt_of (i := 191) (by decide +kernel) (by decide +kernel)
theorem wt_192 : Cond.static yX4_isWithin ∈ WT := wt_of (i := 192) (by decide +kernel) (by decide +kernel)
theorem wt_193 : Cond.code yX4_isWithin cX4_isWithin 3 (Option.some FieldType.boolean) ∈ WT := wt_of (i := 193) (by decide +kernel) (by decide +kernel)
theorem wt_194 : Cond.methodLink RX4 62 yX3_size ∈ WT := wt_of (i := 194) (by decide +kernel) (by decide +kernel)
theorem wt_195 : Cond.instanceMethod yX3_size ∈ WT := wt_of (i := 195) (by decide +kernel) (by decide +kernel)
theorem wt_196 : Cond.selects RX3 yX3_size yX3_size ∈ WT := wt_of (i := 196) (by decide +kernel) (by decide +kernel)
theorem wt_197 : Cond.code yX3_size cX3_size 1 (Option.some FieldType.int) ∈ WT := wt_of (i := 197) (by decide +kernel) (by decide +kernel)
theorem wt_198 : Cond.constantLong RX4 66 (255 : Int64) ∈ WT := wt_of (i := 198) (by decide +kernel) (by decide +kernel)
theorem wt_199 : Cond.methodLink RX4 68 yX3_add ∈ WT := wt_of (i := 199) (by decide +kernel) (by decide +kernel)
theorem wt_200 : Cond.instanceMethod yX3_add ∈ WT := wt_of (i := 200) (by decide +kernel) (by decide +kernel)
theorem wt_201 : Cond.selects RX3 yX3_add yX3_add ∈ WT := wt_of (i := 201) (by decide +kernel) (by decide +kernel)
theorem wt_202 : Cond.code yX3_add cX3_add 2 (Option.none : Option FieldType) ∈ WT := wt_of (i := 202) (by decide +kernel) (by decide +kernel)
theorem wt_203 : Cond.methodLink RL 20 yX4_clear ∈ WT := wt_of (i := 203) (by decide +kernel) (by decide +kernel)
theorem wt_204 : Cond.instanceMethod yX4_clear ∈ WT := wt_of (i := 204) (by decide +kernel) (by decide +kernel)
theorem wt_205 : Cond.selects RX4 yX4_clear yX4_clear ∈ WT := wt_of (i := 205) (by decide +kernel) (by decide +kernel)
theorem wt_206 : Cond.code yX4_clear cX4_clear 2 (Option.some FieldType.int) ∈ WT := wt_of (i := 206) (by decide +kernel) (by decide +kernel)
theorem wt_207 : Cond.methodLink RX4 71 yX3_cutTo ∈ WT := wt_of (i := 207) (by decide +kernel) (by decide +kernel)
theorem wt_208 : Cond.instanceMethod yX3_cutTo ∈ WT := wt_of (i := 208) (by decide +kernel) (by decide +kernel)
theorem wt_209 : Cond.selects RX3 yX3_cutTo yX3_cutTo ∈ WT := wt_of (i := 209) (by decide +kernel) (by decide +kernel)
theorem wt_210 : Cond.code yX3_cutTo cX3_cutTo 2 (Option.none : Option FieldType) ∈ WT := wt_of (i := 210) (by decide +kernel) (by decide +kernel)
theorem wt_211 : Cond.methodLink RL 25 yX4_gate ∈ WT := wt_of (i := 211) (by decide +kernel) (by decide +kernel)
theorem wt_212 : Cond.instanceMethod yX4_gate ∈ WT := wt_of (i := 212) (by decide +kernel) (by decide +kernel)
theorem wt_213 : Cond.selects RX4 yX4_gate yX4_gate ∈ WT := wt_of (i := 213) (by decide +kernel) (by decide +kernel)
theorem wt_214 : Cond.code yX4_gate cX4_gate 1 (Option.some FieldType.int) ∈ WT := wt_of (i := 214) (by decide +kernel) (by decide +kernel)
theorem wt_215 : Cond.methodLink RX4 74 yX2_readsAll ∈ WT := wt_of (i := 215) (by decide +kernel) (by decide +kernel)
theorem wt_216 : Cond.instanceMethod yX2_readsAll ∈ WT := wt_of (i := 216) (by decide +kernel) (by decide +kernel)
theorem wt_217 : Cond.selects RX2 yX2_readsAll yX2_readsAll ∈ WT := wt_of (i := 217) (by decide +kernel) (by decide +kernel)
theorem wt_218 : Cond.code yX2_readsAll cX2_readsAll 3 (Option.some FieldType.boolean) ∈ WT := wt_of (i := 218) (by decide +kernel) (by decide +kernel)
theorem wt_219 : Cond.methodLink RX2 54 yX2_beginAnew ∈ WT := wt_of (i := 219) (by decide +kernel) (by decide +kernel)
theorem wt_221 : Cond.instanceMethod yX2_beginAnew ∈ WT := wt_of (i := 221) (by decide +kernel) (by decide +kernel)
theorem wt_222 : Cond.code yX2_beginAnew cX2_beginAnew 1 (Option.none : Option FieldType) ∈ WT := wt_of (i := 222) (by decide +kernel) (by decide +kernel)
theorem wt_223 : Cond.methodLink RX2 70 yX3_cutTo ∈ WT := wt_of (i := 223) (by decide +kernel) (by decide +kernel)
theorem wt_224 : Cond.methodLink RX2 57 yX2_readToken ∈ WT := wt_of (i := 224) (by decide +kernel) (by decide +kernel)
theorem wt_226 : Cond.instanceMethod yX2_readToken ∈ WT := wt_of (i := 226) (by decide +kernel) (by decide +kernel)
theorem wt_227 : Cond.code yX2_readToken cX2_readToken 1 (Option.none : Option FieldType) ∈ WT := wt_of (i := 227) (by decide +kernel) (by decide +kernel)
theorem wt_228 : Cond.methodLink RX2 73 yX3_size ∈ WT := wt_of (i := 228) (by decide +kernel) (by decide +kernel)
theorem wt_229 : Cond.methodLink RX2 94 yX3_at ∈ WT := wt_of (i := 229) (by decide +kernel) (by decide +kernel)
theorem wt_230 : Cond.instanceMethod yX3_at ∈ WT := wt_of (i := 230) (by decide +kernel) (by decide +kernel)
theorem wt_231 : Cond.selects RX3 yX3_at yX3_at ∈ WT := wt_of (i := 231) (by decide +kernel) (by decide +kernel)
theorem wt_232 : Cond.code yX3_at cX3_at 2 (Option.some FieldType.int) ∈ WT := wt_of (i := 232) (by decide +kernel) (by decide +kernel)
theorem wt_233 : Cond.methodLink RX2 101 yX2_isDigit ∈ WT := wt_of (i := 233) (by decide +kernel) (by decide +kernel)
theorem wt_234 : Cond.static yX2_isDigit ∈ WT := wt_of (i := 234) (by decide +kernel) (by decide +kernel)
theorem wt_235 : Cond.code yX2_isDigit cX2_isDigit 1 (Option.some FieldType.boolean) ∈ WT := wt_of (i := 235) (by decide +kernel) (by decide +kernel)
theorem wt_236 : Cond.methodLink RX2 105 yX2_readDigits ∈ WT := wt_of (i := 236) (by decide +kernel) (by decide +kernel)
theorem wt_238 : Cond.instanceMethod yX2_readDigits ∈ WT := wt_of (i := 238) (by decide +kernel) (by decide +kernel)
theorem wt_239 : Cond.code yX2_readDigits cX2_readDigits 3 (Option.none : Option FieldType) ∈ WT := wt_of (i := 239) (by decide +kernel) (by decide +kernel)
theorem wt_240 : Cond.methodLink RX2 108 yX2_isLetter ∈ WT := wt_of (i := 240) (by decide +kernel) (by decide +kernel)
theorem wt_241 : Cond.static yX2_isLetter ∈ WT := wt_of (i := 241) (by decide +kernel) (by decide +kernel)
theorem wt_242 : Cond.code yX2_isLetter cX2_isLetter 1 (Option.some FieldType.boolean) ∈ WT := wt_of (i := 242) (by decide +kernel) (by decide +kernel)
theorem wt_243 : Cond.methodLink RX2 111 yX2_readLetters ∈ WT := wt_of (i := 243) (by decide +kernel) (by decide +kernel)
theorem wt_245 : Cond.instanceMethod yX2_readLetters ∈ WT := wt_of (i := 245) (by decide +kernel) (by decide +kernel)
theorem wt_246 : Cond.code yX2_readLetters cX2_readLetters 1 (Option.none : Option FieldType) ∈ WT := wt_of (i := 246) (by decide +kernel) (by decide +kernel)
theorem wt_248 : Cond.methodLink RX2 116 yX2_isWord ∈ WT := wt_of (i := 248) (by decide +kernel) (by decide +kernel)
theorem wt_250 : Cond.instanceMethod yX2_isWord ∈ WT := wt_of (i := 250) (by decide +kernel) (by decide +kernel)
theorem wt_251 : Cond.code yX2_isWord cX2_isWord 3 (Option.some FieldType.boolean) ∈ WT := wt_of (i := 251) (by decide +kernel) (by decide +kernel)
theorem wt_252 : Cond.methodLink RX2 124 yJ0_length_8abf5 ∈ WT := wt_of (i := 252) (by decide +kernel) (by decide +kernel)
theorem wt_253 : Cond.instanceMethod yJ0_length_8abf5 ∈ WT := wt_of (i := 253) (by decide +kernel) (by decide +kernel)
theorem wt_254 : Cond.selects RJ0 yJ0_length_8abf5 yJ0_length_8abf5 ∈ WT := wt_of (i := 254) (by decide +kernel) (by decide +kernel)
theorem wt_255 : Cond.code yJ0_length_8abf5 cJ0_length_8abf5 1 (Option.some FieldType.int) ∈ WT := wt_of (i := 255) (by decide +kernel) (by decide +kernel)
theorem wt_256 : Cond.methodLink RJ0 335 yJ0_coder_7d493 ∈ WT := wt_of (i := 256) (by decide +kernel) (by decide +kernel)
theorem wt_257 : Cond.instanceMethod yJ0_coder_7d493 ∈ WT := wt_of (i := 257) (by decide +kernel) (by decide +kernel)
theorem wt_258 : Cond.selects RJ0 yJ0_coder_7d493 yJ0_coder_7d493 ∈ WT := wt_of (i := 258) (by decide +kernel) (by decide +kernel)
theorem wt_259 : Cond.code yJ0_coder_7d493 cJ0_coder_7d493 1 (Option.some FieldType.byte) ∈ WT := wt_of (i := 259) (by decide +kernel) (by decide +kernel)
theorem wt_260 : Cond.fieldLink RJ0 38 "java/lang/String" "COMPACT_STRINGS" "Z" ∈ WT := wt_of (i := 260) (by decide +kernel) (by decide +kernel)
theorem wt_262 : Cond.methodLink RX2 129 yJ0_charAt_5068e ∈ WT := wt_of (i := 262) (by decide +kernel) (by decide +kernel)
theorem wt_263 : Cond.instanceMethod yJ0_charAt_5068e ∈ WT := wt_of (i := 263) (by decide +kernel) (by decide +kernel)
theorem wt_264 : Cond.selects RJ0 yJ0_charAt_5068e yJ0_charAt_5068e ∈ WT := wt_of (i := 264) (by decide +kernel) (by decide +kernel)
theorem wt_265 : Cond.code yJ0_charAt_5068e cJ0_charAt_5068e 2 (Option.some FieldType.char) ∈ WT := wt_of (i := 265) (by decide +kernel) (by decide +kernel)
theorem wt_266 : Cond.methodLink RJ0 492 yJ0_isLatin1_aae02 ∈ WT := wt_of (i := 266) (by decide +kernel) (by decide +kernel)
theorem wt_267 : Cond.instanceMethod yJ0_isLatin1_aae02 ∈ WT := wt_of (i := 267) (by decide +kernel) (by decide +kernel)
theorem wt_268 : Cond.selects RJ0 yJ0_isLatin1_aae02 yJ0_isLatin1_aae02 ∈ WT := wt_of (i := 268) (by decide +kernel) (by decide +kernel)
theorem wt_269 : Cond.code yJ0_isLatin1_aae02 cJ0_isLatin1_aae02 1 (Option.some FieldType.boolean) ∈ WT := wt_of (i := 269) (by decide +kernel) (by decide +kernel)
theorem wt_270 : Cond.methodLink RJ0 495 yJ1_charAt_3b067 ∈ WT := wt_of (i := 270) (by decide +kernel) (by decide +kernel)
theorem wt_271 : Cond.static yJ1_charAt_3b067 ∈ WT := wt_of (i := 271) (by decide +kernel) (by decide +kernel)
theorem wt_272 : Cond.code yJ1_charAt_3b067 cJ1_charAt_3b067 2 (Option.some FieldType.char) ∈ WT := wt_of (i := 272) (by decide +kernel) (by decide +kernel)
theorem wt_273 : Cond.methodLink RJ1 9 yJ0_checkIndex_df160 ∈ WT := wt_of (i := 273) (by decide +kernel) (by decide +kernel)
theorem wt_274 : Cond.static yJ0_checkIndex_df160 ∈ WT := wt_of (i := 274) (by decide +kernel) (by decide +kernel)
theorem wt_275 : Cond.code yJ0_checkIndex_df160 cJ0_checkIndex_df160 2 (Option.none : Option FieldType) ∈ WT := wt_of (i := 275) (by decide +kernel) (by decide +kernel)
theorem wt_276 : Cond.fieldLink RJ0 1053 "jdk/internal/util/Preconditions" "SIOOBE_FORMATTER" "Ljava/util/function/BiFunction;" ∈ WT := wt_of (i := 276) (by decide +kernel) (by decide +kernel)
theorem wt_278 : Cond.methodLink RJ0 1059 yJ3_checkIndex_8e157 ∈ WT := wt_of (i := 278) (by decide +kernel) (by decide +kernel)
theorem wt_279 : Cond.static yJ3_checkIndex_8e157 ∈ WT := wt_of (i := 279) (by decide +kernel) (by decide +kernel)
theorem wt_280 : Cond.code yJ3_checkIndex_8e157 cJ3_checkIndex_8e157 3 (Option.some FieldType.int) ∈ WT := wt_of (i := 280) (by decide +kernel) (by decide +kernel)
theorem wt_281 : Cond.methodLink RJ0 498 yJ2_charAt_3b067 ∈ WT := wt_of (i := 281) (by decide +kernel) (by decide +kernel)
theorem wt_282 : Cond.static yJ2_charAt_3b067 ∈ WT := wt_of (i := 282) (by decide +kernel) (by decide +kernel)
theorem wt_283 : Cond.code yJ2_charAt_3b067 cJ2_charAt_3b067 2 (Option.some FieldType.char) ∈ WT := wt_of (i := 283) (by decide +kernel) (by decide +kernel)
theorem wt_284 : Cond.methodLink RJ2 67 yJ2_checkIndex_2214a ∈ WT := wt_of (i := 284) (by decide +kernel) (by decide +kernel)
theorem wt_285 : Cond.static yJ2_checkIndex_2214a ∈ WT := wt_of (i := 285) (by decide +kernel) (by decide +kernel)
theorem wt_286 : Cond.code yJ2_checkIndex_2214a cJ2_checkIndex_2214a 2 (Option.none : Option FieldType) ∈ WT := wt_of (i := 286) (by decide +kernel) (by decide +kernel)
theorem wt_287 : Cond.methodLink RJ2 48 yJ2_length_9d52b ∈ WT := wt_of (i := 287) (by decide +kernel) (by decide +kernel)
theorem wt_288 : Cond.static yJ2_length_9d52b ∈ WT := wt_of (i := 288) (by decide +kernel) (by decide +kernel)
theorem wt_289 : Cond.code yJ2_length_9d52b cJ2_length_9d52b 1 (Option.some FieldType.int) ∈ WT := wt_of (i := 289) (by decide +kernel) (by decide +kernel)
theorem wt_290 : Cond.methodLink RJ2 414 yJ0_checkIndex_df160 ∈ WT := wt_of (i := 290) (by decide +kernel) (by decide +kernel)
theorem wt_291 : Cond.methodLink RJ2 71 yJ2_getChar_3b067 ∈ WT := wt_of (i := 291) (by decide +kernel) (by decide +kernel)
theorem wt_292 : Cond.static yJ2_getChar_3b067 ∈ WT := wt_of (i := 292) (by decide +kernel) (by decide +kernel)
theorem wt_293 : Cond.code yJ2_getChar_3b067 cJ2_getChar_3b067 2 (Option.some FieldType.char) ∈ WT := wt_of (i := 293) (by decide +kernel) (by decide +kernel)
theorem wt_294 : Cond.fieldLink RJ2 44 "java/lang/StringUTF16" "$assertionsDisabled" "Z" ∈ WT := wt_of (i := 294) (by decide +kernel) (by decide +kernel)
theorem wt_296 : Cond.fieldLink RJ2 59 "java/lang/StringUTF16" "HI_BYTE_SHIFT" "I" ∈ WT := wt_of (i := 296) (by decide +kernel) (by decide +kernel)
theorem wt_298 : Cond.fieldLink RJ2 63 "java/lang/StringUTF16" "LO_BYTE_SHIFT" "I" ∈ WT := wt_of (i := 298) (by decide +kernel) (by decide +kernel)
theorem wt_302 : Cond.methodLink RX2 60 yX2_readsLoad ∈ WT := wt_of (i := 302) (by decide +kernel) (by decide +kernel)
theorem wt_304 : Cond.instanceMethod yX2_readsLoad ∈ WT := wt_of (i := 304) (by decide +kernel) (by decide +kernel)
theorem wt_305 : Cond.code yX2_readsLoad cX2_readsLoad 1 (Option.some FieldType.boolean) ∈ WT := wt_of (i := 305) (by decide +kernel) (by decide +kernel)
theorem wt_306 : Cond.methodLink RX2 77 yX2_readsNumber ∈ WT := wt_of (i := 306) (by decide +kernel) (by decide +kernel)
theorem wt_308 : Cond.instanceMethod yX2_readsNumber ∈ WT := wt_of (i := 308) (by decide +kernel) (by decide +kernel)
theorem wt_309 : Cond.code yX2_readsNumber cX2_readsNumber 3 (Option.some FieldType.boolean) ∈ WT := wt_of (i := 309) (by decide +kernel) (by decide +kernel)
theorem wt_310 : Cond.methodLink RX2 81 yX3_add ∈ WT := wt_of (i := 310) (by decide +kernel) (by decide +kernel)
theorem wt_311 : Cond.methodLink RX2 84 yX2_readsEndOfItem ∈ WT := wt_of (i := 311) (by decide +kernel) (by decide +kernel)
theorem wt_313 : Cond.instanceMethod yX2_readsEndOfItem ∈ WT := wt_of (i := 313) (by decide +kernel) (by decide +kernel)
theorem wt_314 : Cond.code yX2_readsEndOfItem cX2_readsEndOfItem 1 (Option.some FieldType.boolean) ∈ WT := wt_of (i := 314) (by decide +kernel) (by decide +kernel)
theorem wt_315 : Cond.methodLink RX2 64 yX2_readsTaster ∈ WT := wt_of (i := 315) (by decide +kernel) (by decide +kernel)
theorem wt_317 : Cond.instanceMethod yX2_readsTaster ∈ WT := wt_of (i := 317) (by decide +kernel) (by decide +kernel)
theorem wt_318 : Cond.code yX2_readsTaster cX2_readsTaster 2 (Option.some FieldType.boolean) ∈ WT := wt_of (i := 318) (by decide +kernel) (by decide +kernel)
theorem wt_319 : Cond.methodLink RX2 87 yX0_least ∈ WT := wt_of (i := 319) (by decide +kernel) (by decide +kernel)
theorem wt_320 : Cond.static yX0_least ∈ WT := wt_of (i := 320) (by decide +kernel) (by decide +kernel)
theorem wt_321 : Cond.code yX0_least cX0_least 1 (Option.some FieldType.int) ∈ WT := wt_of (i := 321) (by decide +kernel) (by decide +kernel)
theorem wt_322 : Cond.methodLink RX2 91 yX0_most ∈ WT := wt_of (i := 322) (by decide +kernel) (by decide +kernel)
theorem wt_323 : Cond.static yX0_most ∈ WT := wt_of (i := 323) (by decide +kernel) (by decide +kernel)
theorem wt_324 : Cond.code yX0_most cX0_most 1 (Option.some FieldType.int) ∈ WT := wt_of (i := 324) (by decide +kernel) (by decide +kernel)
theorem wt_325 : Cond.methodLink RX2 97 yX0_numbered ∈ WT := wt_of (i := 325) (by decide +kernel) (by decide +kernel)
theorem wt_326 : Cond.static yX0_numbered ∈ WT := wt_of (i := 326) (by decide +kernel) (by decide +kernel)
theorem wt_327 : Cond.code yX0_numbered cX0_numbered 4 (Option.some FieldType.int) ∈ WT := wt_of (i := 327) (by decide +kernel) (by decide +kernel)
theorem wt_328 : Cond.methodLink RX2 67 yX2_readsHeat ∈ WT := wt_of (i := 328) (by decide +kernel) (by decide +kernel)
theorem wt_330 : Cond.instanceMethod yX2_readsHeat ∈ WT := wt_of (i := 330) (by decide +kernel) (by decide +kernel)
theorem wt_331 : Cond.code yX2_readsHeat cX2_readsHeat 1 (Option.some FieldType.boolean) ∈ WT := wt_of (i := 331) (by decide +kernel) (by decide +kernel)
theorem wt_332 : Cond.methodLink RX4 78 yX2_fault ∈ WT := wt_of (i := 332) (by decide +kernel) (by decide +kernel)
theorem wt_333 : Cond.instanceMethod yX2_fault ∈ WT := wt_of (i := 333) (by decide +kernel) (by decide +kernel)
theorem wt_334 : Cond.selects RX2 yX2_fault yX2_fault ∈ WT := wt_of (i := 334) (by decide +kernel) (by decide +kernel)
theorem wt_335 : Cond.code yX2_fault cX2_fault 1 (Option.some FieldType.int) ∈ WT := wt_of (i := 335) (by decide +kernel) (by decide +kernel)
theorem wt_336 : Cond.methodLink RX4 82 yX3_copyFrom ∈ WT := wt_of (i := 336) (by decide +kernel) (by decide +kernel)
theorem wt_337 : Cond.instanceMethod yX3_copyFrom ∈ WT := wt_of (i := 337) (by decide +kernel) (by decide +kernel)
theorem wt_338 : Cond.selects RX3 yX3_copyFrom yX3_copyFrom ∈ WT := wt_of (i := 338) (by decide +kernel) (by decide +kernel)
theorem wt_339 : Cond.code yX3_copyFrom cX3_copyFrom 3 (Option.none : Option FieldType) ∈ WT := wt_of (i := 339) (by decide +kernel) (by decide +kernel)
theorem wt_340 : Cond.methodLink RX3 23 yX3_cutTo ∈ WT := wt_of (i := 340) (by decide +kernel) (by decide +kernel)
theorem wt_341 : Cond.methodLink RX3 27 yX3_size ∈ WT := wt_of (i := 341) (by decide +kernel) (by decide +kernel)
theorem wt_342 : Cond.methodLink RX3 31 yX3_at ∈ WT := wt_of (i := 342) (by decide +kernel) (by decide +kernel)
theorem wt_343 : Cond.methodLink RX3 35 yX3_add ∈ WT := wt_of (i := 343) (by decide +kernel) (by decide +kernel)
theorem wt_344 : Cond.methodLink RX4 91 yX1_begin ∈ WT := wt_of (i := 344) (by decide +kernel) (by decide +kernel)
theorem wt_345 : Cond.instanceMethod yX1_begin ∈ WT := wt_of (i := 345) (by decide +kernel) (by decide +kernel)
theorem wt_346 : Cond.selects RX1 yX1_begin yX1_begin ∈ WT := wt_of (i := 346) (by decide +kernel) (by decide +kernel)
theorem wt_347 : Cond.code yX1_begin cX1_begin 4 (Option.none : Option FieldType) ∈ WT := wt_of (i := 347) (by decide +kernel) (by decide +kernel)
theorem wt_348 : Cond.methodLink RX1 27 yX3_cutTo ∈ WT := wt_of (i := 348) (by decide +kernel) (by decide +kernel)
theorem wt_349 : Cond.methodLink RX1 30 yX3_add ∈ WT := wt_of (i := 349) (by decide +kernel) (by decide +kernel)
theorem wt_350 : Cond.arrayClass FieldType.byte ∈ WT := wt_of (i := 350) (by decide +kernel) (by decide +kernel)
theorem wt_351 : Cond.methodLink RL 29 yX4_load ∈ WT := wt_of (i := 351) (by decide +kernel) (by decide +kernel)
theorem wt_352 : Cond.instanceMethod yX4_load ∈ WT := wt_of (i := 352) (by decide +kernel) (by decide +kernel)
theorem wt_353 : Cond.selects RX4 yX4_load yX4_load ∈ WT := wt_of (i := 353) (by decide +kernel) (by decide +kernel)
theorem wt_354 : Cond.code yX4_load cX4_load 2 (Option.some FieldType.int) ∈ WT := wt_of (i := 354) (by decide +kernel) (by decide +kernel)
theorem wt_355 : Cond.methodLink RX4 98 yX4_isLoad ∈ WT := wt_of (i := 355) (by decide +kernel) (by decide +kernel)
theorem wt_357 : Cond.instanceMethod yX4_isLoad ∈ WT := wt_of (i := 357) (by decide +kernel) (by decide +kernel)
theorem wt_358 : Cond.code yX4_isLoad cX4_isLoad 2 (Option.some FieldType.boolean) ∈ WT := wt_of (i := 358) (by decide +kernel) (by decide +kernel)
theorem wt_359 : Cond.methodLink RX4 210 yX3_has ∈ WT := wt_of (i := 359) (by decide +kernel) (by decide +kernel)
theorem wt_360 : Cond.instanceMethod yX3_has ∈ WT := wt_of (i := 360) (by decide +kernel) (by decide +kernel)
theorem wt_361 : Cond.selects RX3 yX3_has yX3_has ∈ WT := wt_of (i := 361) (by decide +kernel) (by decide +kernel)
theorem wt_362 : Cond.code yX3_has cX3_has 2 (Option.some FieldType.boolean) ∈ WT := wt_of (i := 362) (by decide +kernel) (by decide +kernel)
theorem wt_363 : Cond.methodLink RX4 102 yX3_at ∈ WT := wt_of (i := 363) (by decide +kernel) (by decide +kernel)
theorem wt_364 : Cond.methodLink RL 34 yX4_taster ∈ WT := wt_of (i := 364) (by decide +kernel) (by decide +kernel)
theorem wt_365 : Cond.instanceMethod yX4_taster ∈ WT := wt_of (i := 365) (by decide +kernel) (by decide +kernel)
theorem wt_366 : Cond.selects RX4 yX4_taster yX4_taster ∈ WT := wt_of (i := 366) (by decide +kernel) (by decide +kernel)
theorem wt_367 : Cond.code yX4_taster cX4_taster 3 (Option.some FieldType.int) ∈ WT := wt_of (i := 367) (by decide +kernel) (by decide +kernel)
theorem wt_368 : Cond.methodLink RX4 106 yX4_isTaster ∈ WT := wt_of (i := 368) (by decide +kernel) (by decide +kernel)
theorem wt_370 : Cond.instanceMethod yX4_isTaster ∈ WT := wt_of (i := 370) (by decide +kernel) (by decide +kernel)
theorem wt_371 : Cond.code yX4_isTaster cX4_isTaster 2 (Option.some FieldType.boolean) ∈ WT := wt_of (i := 371) (by decide +kernel) (by decide +kernel)
theorem wt_372 : Cond.methodLink RX4 112 yX0_part ∈ WT := wt_of (i := 372) (by decide +kernel) (by decide +kernel)
theorem wt_373 : Cond.static yX0_part ∈ WT := wt_of (i := 373) (by decide +kernel) (by decide +kernel)
theorem wt_374 : Cond.code yX0_part cX0_part 2 (Option.some FieldType.int) ∈ WT := wt_of (i := 374) (by decide +kernel) (by decide +kernel)
theorem wt_375 : Cond.methodLink RL 39 yX4_cups ∈ WT := wt_of (i := 375) (by decide +kernel) (by decide +kernel)
theorem wt_376 : Cond.instanceMethod yX4_cups ∈ WT := wt_of (i := 376) (by decide +kernel) (by decide +kernel)
theorem wt_377 : Cond.selects RX4 yX4_cups yX4_cups ∈ WT := wt_of (i := 377) (by decide +kernel) (by decide +kernel)
theorem wt_378 : Cond.code yX4_cups cX4_cups 4 (Option.some FieldType.int) ∈ WT := wt_of (i := 378) (by decide +kernel) (by decide +kernel)
theorem wt_379 : Cond.methodLink RX4 118 yX4_isWeight ∈ WT := wt_of (i := 379) (by decide +kernel) (by decide +kernel)
theorem wt_380 : Cond.static yX4_isWeight ∈ WT := wt_of (i := 380) (by decide +kernel) (by decide +kernel)
theorem wt_381 : Cond.code yX4_isWeight cX4_isWeight 1 (Option.some FieldType.boolean) ∈ WT := wt_of (i := 381) (by decide +kernel) (by decide +kernel)
theorem wt_382 : Cond.methodLink RX4 122 yX0_drinks ∈ WT := wt_of (i := 382) (by decide +kernel) (by decide +kernel)
theorem wt_383 : Cond.static yX0_drinks ∈ WT := wt_of (i := 383) (by decide +kernel) (by decide +kernel)
theorem wt_384 : Cond.code yX0_drinks cX0_drinks 6 (Option.some FieldType.int) ∈ WT := wt_of (i := 384) (by decide +kernel) (by decide +kernel)
theorem wt_385 : Cond.methodLink RX0 9 yX0_part ∈ WT := wt_of (i := 385) (by decide +kernel) (by decide +kernel)
theorem wt_386 : Cond.methodLink RX0 13 Lib.Math.max.name ∈ WT := wt_of (i := 386) (by decide +kernel) (by decide +kernel)
theorem wt_387 : Cond.methodLink RL 44 yX4_weighs ∈ WT := wt_of (i := 387) (by decide +kernel) (by decide +kernel)
theorem wt_388 : Cond.instanceMethod yX4_weighs ∈ WT := wt_of (i := 388) (by decide +kernel) (by decide +kernel)
theorem wt_389 : Cond.selects RX4 yX4_weighs yX4_weighs ∈ WT := wt_of (i := 389) (by decide +kernel) (by decide +kernel)
theorem wt_390 : Cond.code yX4_weighs cX4_weighs 4 (Option.some FieldType.int) ∈ WT := wt_of (i := 390) (by decide +kernel) (by decide +kernel)
theorem wt_391 : Cond.methodLink RX4 126 yX4_facts ∈ WT := wt_of (i := 391) (by decide +kernel) (by decide +kernel)
theorem wt_393 : Cond.instanceMethod yX4_facts ∈ WT := wt_of (i := 393) (by decide +kernel) (by decide +kernel)
theorem wt_394 : Cond.code yX4_facts cX4_facts 1 (Option.some FieldType.int) ∈ WT := wt_of (i := 394) (by decide +kernel) (by decide +kernel)
theorem wt_395 : Cond.methodLink RX4 129 yX4_thirst ∈ WT := wt_of (i := 395) (by decide +kernel) (by decide +kernel)
theorem wt_397 : Cond.instanceMethod yX4_thirst ∈ WT := wt_of (i := 397) (by decide +kernel) (by decide +kernel)
theorem wt_398 : Cond.code yX4_thirst cX4_thirst 3 (Option.some FieldType.int) ∈ WT := wt_of (i := 398) (by decide +kernel) (by decide +kernel)
theorem wt_399 : Cond.methodLink RX4 132 yX4_addFact ∈ WT := wt_of (i := 399) (by decide +kernel) (by decide +kernel)
theorem wt_401 : Cond.instanceMethod yX4_addFact ∈ WT := wt_of (i := 401) (by decide +kernel) (by decide +kernel)
theorem wt_402 : Cond.code yX4_addFact cX4_addFact 5 (Option.none : Option FieldType) ∈ WT := wt_of (i := 402) (by decide +kernel) (by decide +kernel)
theorem wt_403 : Cond.methodLink RX4 136 yX4_addLick ∈ WT := wt_of (i := 403) (by decide +kernel) (by decide +kernel)
theorem wt_405 : Cond.instanceMethod yX4_addLick ∈ WT := wt_of (i := 405) (by decide +kernel) (by decide +kernel)
theorem wt_406 : Cond.code yX4_addLick cX4_addLick 2 (Option.none : Option FieldType) ∈ WT := wt_of (i := 406) (by decide +kernel) (by decide +kernel)
theorem wt_407 : Cond.methodLink RX4 144 yX3_put ∈ WT := wt_of (i := 407) (by decide +kernel) (by decide +kernel)
theorem wt_408 : Cond.instanceMethod yX3_put ∈ WT := wt_of (i := 408) (by decide +kernel) (by decide +kernel)
theorem wt_409 : Cond.selects RX3 yX3_put yX3_put ∈ WT := wt_of (i := 409) (by decide +kernel) (by decide +kernel)
theorem wt_410 : Cond.code yX3_put cX3_put 3 (Option.none : Option FieldType) ∈ WT := wt_of (i := 410) (by decide +kernel) (by decide +kernel)
theorem wt_411 : Cond.methodLink RL 48 yX4_says ∈ WT := wt_of (i := 411) (by decide +kernel) (by decide +kernel)
theorem wt_412 : Cond.instanceMethod yX4_says ∈ WT := wt_of (i := 412) (by decide +kernel) (by decide +kernel)
theorem wt_413 : Cond.selects RX4 yX4_says yX4_says ∈ WT := wt_of (i := 413) (by decide +kernel) (by decide +kernel)
theorem wt_414 : Cond.code yX4_says cX4_says 4 (Option.some FieldType.int) ∈ WT := wt_of (i := 414) (by decide +kernel) (by decide +kernel)
theorem wt_415 : Cond.methodLink RL 52 yX4_jug ∈ WT := wt_of (i := 415) (by decide +kernel) (by decide +kernel)
theorem wt_416 : Cond.instanceMethod yX4_jug ∈ WT := wt_of (i := 416) (by decide +kernel) (by decide +kernel)
theorem wt_417 : Cond.selects RX4 yX4_jug yX4_jug ∈ WT := wt_of (i := 417) (by decide +kernel) (by decide +kernel)
theorem wt_418 : Cond.code yX4_jug cX4_jug 8 (Option.some FieldType.int) ∈ WT := wt_of (i := 418) (by decide +kernel) (by decide +kernel)
theorem wt_419 : Cond.methodLink RX4 139 Lib.Math.min.name ∈ WT := wt_of (i := 419) (by decide +kernel) (by decide +kernel)
theorem wt_420 : Cond.static Lib.Math.min.name ∈ WT := wt_of (i := 420) (by decide +kernel) (by decide +kernel)
theorem wt_421 : Cond.code Lib.Math.min.name Lib.Math.min.code 2 (Option.some FieldType.int) ∈ WT := wt_of (i := 421) (by decide +kernel) (by decide +kernel)
theorem wt_422 : Cond.methodLink RL 57 yX4_night ∈ WT := wt_of (i := 422) (by decide +kernel) (by decide +kernel)
theorem wt_423 : Cond.instanceMethod yX4_night ∈ WT := wt_of (i := 423) (by decide +kernel) (by decide +kernel)
theorem wt_424 : Cond.selects RX4 yX4_night yX4_night ∈ WT := wt_of (i := 424) (by decide +kernel) (by decide +kernel)
theorem wt_425 : Cond.code yX4_night cX4_night 3 (Option.some FieldType.int) ∈ WT := wt_of (i := 425) (by decide +kernel) (by decide +kernel)
theorem wt_426 : Cond.methodLink RL 61 yX4_heat ∈ WT := wt_of (i := 426) (by decide +kernel) (by decide +kernel)
theorem wt_427 : Cond.instanceMethod yX4_heat ∈ WT := wt_of (i := 427) (by decide +kernel) (by decide +kernel)
theorem wt_428 : Cond.selects RX4 yX4_heat yX4_heat ∈ WT := wt_of (i := 428) (by decide +kernel) (by decide +kernel)
theorem wt_429 : Cond.code yX4_heat cX4_heat 3 (Option.some FieldType.int) ∈ WT := wt_of (i := 429) (by decide +kernel) (by decide +kernel)
theorem wt_430 : Cond.methodLink RL 65 yX4_undo ∈ WT := wt_of (i := 430) (by decide +kernel) (by decide +kernel)
theorem wt_431 : Cond.instanceMethod yX4_undo ∈ WT := wt_of (i := 431) (by decide +kernel) (by decide +kernel)
theorem wt_432 : Cond.selects RX4 yX4_undo yX4_undo ∈ WT := wt_of (i := 432) (by decide +kernel) (by decide +kernel)
theorem wt_433 : Cond.code yX4_undo cX4_undo 3 (Option.some FieldType.int) ∈ WT := wt_of (i := 433) (by decide +kernel) (by decide +kernel)
theorem wt_434 : Cond.methodLink RX4 147 yX4_fact ∈ WT := wt_of (i := 434) (by decide +kernel) (by decide +kernel)
theorem wt_436 : Cond.instanceMethod yX4_fact ∈ WT := wt_of (i := 436) (by decide +kernel) (by decide +kernel)
theorem wt_437 : Cond.code yX4_fact cX4_fact 3 (Option.some FieldType.int) ∈ WT := wt_of (i := 437) (by decide +kernel) (by decide +kernel)
theorem wt_438 : Cond.methodLink RX4 150 Lib.Math.max.name ∈ WT := wt_of (i := 438) (by decide +kernel) (by decide +kernel)
theorem wt_439 : Cond.methodLink RL 69 yX4_known ∈ WT := wt_of (i := 439) (by decide +kernel) (by decide +kernel)
theorem wt_440 : Cond.instanceMethod yX4_known ∈ WT := wt_of (i := 440) (by decide +kernel) (by decide +kernel)
theorem wt_441 : Cond.selects RX4 yX4_known yX4_known ∈ WT := wt_of (i := 441) (by decide +kernel) (by decide +kernel)
theorem wt_442 : Cond.code yX4_known cX4_known 3 (Option.some FieldType.int) ∈ WT := wt_of (i := 442) (by decide +kernel) (by decide +kernel)
theorem wt_443 : Cond.methodLink RL 73 yX4_canBe ∈ WT := wt_of (i := 443) (by decide +kernel) (by decide +kernel)
theorem wt_444 : Cond.instanceMethod yX4_canBe ∈ WT := wt_of (i := 444) (by decide +kernel) (by decide +kernel)
theorem wt_445 : Cond.selects RX4 yX4_canBe yX4_canBe ∈ WT := wt_of (i := 445) (by decide +kernel) (by decide +kernel)
theorem wt_446 : Cond.code yX4_canBe cX4_canBe 3 (Option.some FieldType.int) ∈ WT := wt_of (i := 446) (by decide +kernel) (by decide +kernel)
theorem wt_447 : Cond.methodLink RX4 155 yX4_greatestOf ∈ WT := wt_of (i := 447) (by decide +kernel) (by decide +kernel)
theorem wt_449 : Cond.instanceMethod yX4_greatestOf ∈ WT := wt_of (i := 449) (by decide +kernel) (by decide +kernel)
theorem wt_450 : Cond.code yX4_greatestOf cX4_greatestOf 3 (Option.some FieldType.int) ∈ WT := wt_of (i := 450) (by decide +kernel) (by decide +kernel)
theorem wt_451 : Cond.methodLink RX4 213 yX4_canWeigh ∈ WT := wt_of (i := 451) (by decide +kernel) (by decide +kernel)
theorem wt_453 : Cond.instanceMethod yX4_canWeigh ∈ WT := wt_of (i := 453) (by decide +kernel) (by decide +kernel)
theorem wt_454 : Cond.code yX4_canWeigh cX4_canWeigh 5 (Option.some FieldType.boolean) ∈ WT := wt_of (i := 454) (by decide +kernel) (by decide +kernel)
theorem wt_455 : Cond.methodLink RX4 178 yX4_drinksIn ∈ WT := wt_of (i := 455) (by decide +kernel) (by decide +kernel)
theorem wt_457 : Cond.instanceMethod yX4_drinksIn ∈ WT := wt_of (i := 457) (by decide +kernel) (by decide +kernel)
theorem wt_458 : Cond.code yX4_drinksIn cX4_drinksIn 3 (Option.some FieldType.int) ∈ WT := wt_of (i := 458) (by decide +kernel) (by decide +kernel)
theorem wt_459 : Cond.methodLink RX4 158 yX4_leastOf ∈ WT := wt_of (i := 459) (by decide +kernel) (by decide +kernel)
theorem wt_461 : Cond.instanceMethod yX4_leastOf ∈ WT := wt_of (i := 461) (by decide +kernel) (by decide +kernel)
theorem wt_462 : Cond.code yX4_leastOf cX4_leastOf 3 (Option.some FieldType.int) ∈ WT := wt_of (i := 462) (by decide +kernel) (by decide +kernel)
theorem wt_463 : Cond.methodLink RL 77 yX4_next ∈ WT := wt_of (i := 463) (by decide +kernel) (by decide +kernel)
theorem wt_464 : Cond.instanceMethod yX4_next ∈ WT := wt_of (i := 464) (by decide +kernel) (by decide +kernel)
theorem wt_465 : Cond.selects RX4 yX4_next yX4_next ∈ WT := wt_of (i := 465) (by decide +kernel) (by decide +kernel)
theorem wt_466 : Cond.code yX4_next cX4_next 9 (Option.some FieldType.int) ∈ WT := wt_of (i := 466) (by decide +kernel) (by decide +kernel)
theorem wt_467 : Cond.methodLink RX4 161 yX4_leftAtWorst ∈ WT := wt_of (i := 467) (by decide +kernel) (by decide +kernel)
theorem wt_469 : Cond.instanceMethod yX4_leftAtWorst ∈ WT := wt_of (i := 469) (by decide +kernel) (by decide +kernel)
theorem wt_470 : Cond.code yX4_leftAtWorst cX4_leftAtWorst 8 (Option.some FieldType.int) ∈ WT := wt_of (i := 470) (by decide +kernel) (by decide +kernel)
theorem wt_471 : Cond.methodLink RX4 217 yX4_endOfSpan ∈ WT := wt_of (i := 471) (by decide +kernel) (by decide +kernel)
theorem wt_473 : Cond.instanceMethod yX4_endOfSpan ∈ WT := wt_of (i := 473) (by decide +kernel) (by decide +kernel)
theorem wt_474 : Cond.code yX4_endOfSpan cX4_endOfSpan 7 (Option.some FieldType.int) ∈ WT := wt_of (i := 474) (by decide +kernel) (by decide +kernel)
theorem wt_475 : Cond.methodLink RL 81 yX4_enough ∈ WT := wt_of (i := 475) (by decide +kernel) (by decide +kernel)
theorem wt_476 : Cond.instanceMethod yX4_enough ∈ WT := wt_of (i := 476) (by decide +kernel) (by decide +kernel)
theorem wt_477 : Cond.selects RX4 yX4_enough yX4_enough ∈ WT := wt_of (i := 477) (by decide +kernel) (by decide +kernel)
theorem wt_478 : Cond.code yX4_enough cX4_enough 6 (Option.some FieldType.int) ∈ WT := wt_of (i := 478) (by decide +kernel) (by decide +kernel)
theorem wt_479 : Cond.methodLink RX4 165 yX4_isEnough ∈ WT := wt_of (i := 479) (by decide +kernel) (by decide +kernel)
theorem wt_481 : Cond.instanceMethod yX4_isEnough ∈ WT := wt_of (i := 481) (by decide +kernel) (by decide +kernel)
theorem wt_482 : Cond.code yX4_isEnough cX4_isEnough 7 (Option.some FieldType.boolean) ∈ WT := wt_of (i := 482) (by decide +kernel) (by decide +kernel)
theorem wt_483 : Cond.methodLink RX4 220 yX4_isEnoughBy ∈ WT := wt_of (i := 483) (by decide +kernel) (by decide +kernel)
theorem wt_485 : Cond.instanceMethod yX4_isEnoughBy ∈ WT := wt_of (i := 485) (by decide +kernel) (by decide +kernel)
theorem wt_486 : Cond.code yX4_isEnoughBy cX4_isEnoughBy 11 (Option.some FieldType.boolean) ∈ WT := wt_of (i := 486) (by decide +kernel) (by decide +kernel)
theorem wt_487 : Cond.methodLink RX4 224 yX4_plannedLicks ∈ WT := wt_of (i := 487) (by decide +kernel) (by decide +kernel)
theorem wt_488 : Cond.static yX4_plannedLicks ∈ WT := wt_of (i := 488) (by decide +kernel) (by decide +kernel)
theorem wt_489 : Cond.code yX4_plannedLicks cX4_plannedLicks 2 (Option.some FieldType.int) ∈ WT := wt_of (i := 489) (by decide +kernel) (by decide +kernel)
theorem wt_490 : Cond.methodLink RX4 227 yX4_planWith ∈ WT := wt_of (i := 490) (by decide +kernel) (by decide +kernel)
theorem wt_491 : Cond.static yX4_planWith ∈ WT := wt_of (i := 491) (by decide +kernel) (by decide +kernel)
theorem wt_492 : Cond.code yX4_planWith cX4_planWith 2 (Option.some FieldType.int) ∈ WT := wt_of (i := 492) (by decide +kernel) (by decide +kernel)
theorem wt_493 : Cond.methodLink RL 85 yX4_heavier ∈ WT := wt_of (i := 493) (by decide +kernel) (by decide +kernel)
theorem wt_494 : Cond.instanceMethod yX4_heavier ∈ WT := wt_of (i := 494) (by decide +kernel) (by decide +kernel)
theorem wt_495 : Cond.selects RX4 yX4_heavier yX4_heavier ∈ WT := wt_of (i := 495) (by decide +kernel) (by decide +kernel)
theorem wt_496 : Cond.code yX4_heavier cX4_heavier 3 (Option.some FieldType.int) ∈ WT := wt_of (i := 496) (by decide +kernel) (by decide +kernel)
theorem wt_497 : Cond.methodLink RL 89 yX4_told ∈ WT := wt_of (i := 497) (by decide +kernel) (by decide +kernel)
theorem wt_498 : Cond.instanceMethod yX4_told ∈ WT := wt_of (i := 498) (by decide +kernel) (by decide +kernel)
theorem wt_499 : Cond.selects RX4 yX4_told yX4_told ∈ WT := wt_of (i := 499) (by decide +kernel) (by decide +kernel)
theorem wt_500 : Cond.code yX4_told cX4_told 5 (Option.some FieldType.int) ∈ WT := wt_of (i := 500) (by decide +kernel) (by decide +kernel)
theorem wt_501 : Cond.methodLink RX4 169 yX4_isTasting ∈ WT := wt_of (i := 501) (by decide +kernel) (by decide +kernel)
theorem wt_502 : Cond.static yX4_isTasting ∈ WT := wt_of (i := 502) (by decide +kernel) (by decide +kernel)
theorem wt_503 : Cond.code yX4_isTasting cX4_isTasting 3 (Option.some FieldType.boolean) ∈ WT := wt_of (i := 503) (by decide +kernel) (by decide +kernel)
theorem wt_504 : Cond.methodLink RX4 172 yX4_toldTastings ∈ WT := wt_of (i := 504) (by decide +kernel) (by decide +kernel)
theorem wt_506 : Cond.instanceMethod yX4_toldTastings ∈ WT := wt_of (i := 506) (by decide +kernel) (by decide +kernel)
theorem wt_507 : Cond.code yX4_toldTastings cX4_toldTastings 1 (Option.some FieldType.int) ∈ WT := wt_of (i := 507) (by decide +kernel) (by decide +kernel)
theorem wt_508 : Cond.methodLink RL 94 yX4_forget ∈ WT := wt_of (i := 508) (by decide +kernel) (by decide +kernel)
theorem wt_509 : Cond.instanceMethod yX4_forget ∈ WT := wt_of (i := 509) (by decide +kernel) (by decide +kernel)
theorem wt_510 : Cond.selects RX4 yX4_forget yX4_forget ∈ WT := wt_of (i := 510) (by decide +kernel) (by decide +kernel)
theorem wt_511 : Cond.code yX4_forget cX4_forget 2 (Option.some FieldType.int) ∈ WT := wt_of (i := 511) (by decide +kernel) (by decide +kernel)
theorem wt_512 : Cond.methodLink RL 98 yX4_learnt ∈ WT := wt_of (i := 512) (by decide +kernel) (by decide +kernel)
theorem wt_513 : Cond.instanceMethod yX4_learnt ∈ WT := wt_of (i := 513) (by decide +kernel) (by decide +kernel)
theorem wt_514 : Cond.selects RX4 yX4_learnt yX4_learnt ∈ WT := wt_of (i := 514) (by decide +kernel) (by decide +kernel)
theorem wt_515 : Cond.code yX4_learnt cX4_learnt 4 (Option.some FieldType.int) ∈ WT := wt_of (i := 515) (by decide +kernel) (by decide +kernel)
theorem wt_516 : Cond.methodLink RX4 175 yX4_isAsTold ∈ WT := wt_of (i := 516) (by decide +kernel) (by decide +kernel)
theorem wt_518 : Cond.instanceMethod yX4_isAsTold ∈ WT := wt_of (i := 518) (by decide +kernel) (by decide +kernel)
theorem wt_519 : Cond.code yX4_isAsTold cX4_isAsTold 4 (Option.some FieldType.boolean) ∈ WT := wt_of (i := 519) (by decide +kernel) (by decide +kernel)
theorem wt_520 : Cond.methodLink RL 102 yX4_may ∈ WT := wt_of (i := 520) (by decide +kernel) (by decide +kernel)
theorem wt_521 : Cond.instanceMethod yX4_may ∈ WT := wt_of (i := 521) (by decide +kernel) (by decide +kernel)
theorem wt_522 : Cond.selects RX4 yX4_may yX4_may ∈ WT := wt_of (i := 522) (by decide +kernel) (by decide +kernel)
theorem wt_523 : Cond.code yX4_may cX4_may 9 (Option.some FieldType.int) ∈ WT := wt_of (i := 523) (by decide +kernel) (by decide +kernel)
theorem wt_524 : Cond.methodLink RL 106 yX4_bribed ∈ WT := wt_of (i := 524) (by decide +kernel) (by decide +kernel)
theorem wt_525 : Cond.instanceMethod yX4_bribed ∈ WT := wt_of (i := 525) (by decide +kernel) (by decide +kernel)
theorem wt_526 : Cond.selects RX4 yX4_bribed yX4_bribed ∈ WT := wt_of (i := 526) (by decide +kernel) (by decide +kernel)
theorem wt_527 : Cond.code yX4_bribed cX4_bribed 5 (Option.some FieldType.int) ∈ WT := wt_of (i := 527) (by decide +kernel) (by decide +kernel)
theorem wt_528 : Cond.methodLink RL 110 yX4_memory ∈ WT := wt_of (i := 528) (by decide +kernel) (by decide +kernel)
theorem wt_529 : Cond.instanceMethod yX4_memory ∈ WT := wt_of (i := 529) (by decide +kernel) (by decide +kernel)
theorem wt_530 : Cond.selects RX4 yX4_memory yX4_memory ∈ WT := wt_of (i := 530) (by decide +kernel) (by decide +kernel)
theorem wt_531 : Cond.code yX4_memory cX4_memory 8 (Option.some FieldType.int) ∈ WT := wt_of (i := 531) (by decide +kernel) (by decide +kernel)
theorem wt_532 : Cond.methodLink RX4 181 Lib.Math.abs.name ∈ WT := wt_of (i := 532) (by decide +kernel) (by decide +kernel)
theorem wt_533 : Cond.static Lib.Math.abs.name ∈ WT := wt_of (i := 533) (by decide +kernel) (by decide +kernel)
theorem wt_534 : Cond.code Lib.Math.abs.name Lib.Math.abs.code 1 (Option.some FieldType.int) ∈ WT := wt_of (i := 534) (by decide +kernel) (by decide +kernel)
theorem wt_535 : Cond.methodLink RL 114 yX4_mark ∈ WT := wt_of (i := 535) (by decide +kernel) (by decide +kernel)
theorem wt_536 : Cond.instanceMethod yX4_mark ∈ WT := wt_of (i := 536) (by decide +kernel) (by decide +kernel)
theorem wt_537 : Cond.selects RX4 yX4_mark yX4_mark ∈ WT := wt_of (i := 537) (by decide +kernel) (by decide +kernel)
theorem wt_538 : Cond.code yX4_mark cX4_mark 3 (Option.some FieldType.int) ∈ WT := wt_of (i := 538) (by decide +kernel) (by decide +kernel)
theorem wt_539 : Cond.constant RX4 184 (-1000000 : Int32) ∈ WT := wt_of (i := 539) (by decide +kernel) (by decide +kernel)
theorem wt_540 : Cond.methodLink RX4 185 yX4_markOfTaster ∈ WT := wt_of (i := 540) (by decide +kernel) (by decide +kernel)
theorem wt_542 : Cond.instanceMethod yX4_markOfTaster ∈ WT := wt_of (i := 542) (by decide +kernel) (by decide +kernel)
theorem wt_543 : Cond.code yX4_markOfTaster cX4_markOfTaster 2 (Option.some FieldType.int) ∈ WT := wt_of (i := 543) (by decide +kernel) (by decide +kernel)
theorem wt_544 : Cond.methodLink RX4 188 yX4_markOfCamel ∈ WT := wt_of (i := 544) (by decide +kernel) (by decide +kernel)
theorem wt_546 : Cond.instanceMethod yX4_markOfCamel ∈ WT := wt_of (i := 546) (by decide +kernel) (by decide +kernel)
theorem wt_547 : Cond.code yX4_markOfCamel cX4_markOfCamel 2 (Option.some FieldType.int) ∈ WT := wt_of (i := 547) (by decide +kernel) (by decide +kernel)
theorem wt_548 : Cond.constantLong RX4 230 (10 : Int64) ∈ WT := wt_of (i := 548) (by decide +kernel) (by decide +kernel)
theorem wt_549 : Cond.methodLink RX4 191 yX4_markOfChild ∈ WT := wt_of (i := 549) (by decide +kernel) (by decide +kernel)
theorem wt_551 : Cond.instanceMethod yX4_markOfChild ∈ WT := wt_of (i := 551) (by decide +kernel) (by decide +kernel)
theorem wt_552 : Cond.code yX4_markOfChild cX4_markOfChild 2 (Option.some FieldType.int) ∈ WT := wt_of (i := 552) (by decide +kernel) (by decide +kernel)
theorem wt_553 : Cond.constantLong RX4 232 (100 : Int64) ∈ WT := wt_of (i := 553) (by decide +kernel) (by decide +kernel)
theorem wt_554 : Cond.methodLink RX4 194 yX4_markOfFeverish ∈ WT := wt_of (i := 554) (by decide +kernel) (by decide +kernel)
theorem wt_556 : Cond.instanceMethod yX4_markOfFeverish ∈ WT := wt_of (i := 556) (by decide +kernel) (by decide +kernel)
theorem wt_557 : Cond.code yX4_markOfFeverish cX4_markOfFeverish 2 (Option.some FieldType.int) ∈ WT := wt_of (i := 557) (by decide +kernel) (by decide +kernel)
theorem wt_558 : Cond.constantLong RX4 234 (1000 : Int64) ∈ WT := wt_of (i := 558) (by decide +kernel) (by decide +kernel)
theorem wt_559 : Cond.methodLink RX4 197 yX4_markOfInspector ∈ WT := wt_of (i := 559) (by decide +kernel) (by decide +kernel)
theorem wt_561 : Cond.instanceMethod yX4_markOfInspector ∈ WT := wt_of (i := 561) (by decide +kernel) (by decide +kernel)
theorem wt_562 : Cond.code yX4_markOfInspector cX4_markOfInspector 2 (Option.some FieldType.int) ∈ WT := wt_of (i := 562) (by decide +kernel) (by decide +kernel)
theorem wt_563 : Cond.constantLong RX4 236 (10000 : Int64) ∈ WT := wt_of (i := 563) (by decide +kernel) (by decide +kernel)
theorem wt_564 : Cond.methodLink RX4 200 yX4_markOfWell ∈ WT := wt_of (i := 564) (by decide +kernel) (by decide +kernel)
theorem wt_566 : Cond.instanceMethod yX4_markOfWell ∈ WT := wt_of (i := 566) (by decide +kernel) (by decide +kernel)
theorem wt_567 : Cond.code yX4_markOfWell cX4_markOfWell 2 (Option.some FieldType.int) ∈ WT := wt_of (i := 567) (by decide +kernel) (by decide +kernel)
theorem wt_568 : Cond.constantLong RX4 238 (100000 : Int64) ∈ WT := wt_of (i := 568) (by decide +kernel) (by decide +kernel)
theorem wt_569 : Cond.methodLink RL 118 yX4_keep ∈ WT := wt_of (i := 569) (by decide +kernel) (by decide +kernel)
theorem wt_570 : Cond.instanceMethod yX4_keep ∈ WT := wt_of (i := 570) (by decide +kernel) (by decide +kernel)
theorem wt_571 : Cond.selects RX4 yX4_keep yX4_keep ∈ WT := wt_of (i := 571) (by decide +kernel) (by decide +kernel)
theorem wt_572 : Cond.code yX4_keep cX4_keep 2 (Option.some FieldType.int) ∈ WT := wt_of (i := 572) (by decide +kernel) (by decide +kernel)
theorem wt_573 : Cond.methodLink RX4 203 yX4_imageAt ∈ WT := wt_of (i := 573) (by decide +kernel) (by decide +kernel)
theorem wt_575 : Cond.instanceMethod yX4_imageAt ∈ WT := wt_of (i := 575) (by decide +kernel) (by decide +kernel)
theorem wt_576 : Cond.code yX4_imageAt cX4_imageAt 2 (Option.some (FieldType.object "ThirstScales$Now")) ∈ WT := wt_of (i := 576) (by decide +kernel) (by decide +kernel)
theorem wt_577 : Cond.methodLink RX4 207 yX1_copyFrom ∈ WT := wt_of (i := 577) (by decide +kernel) (by decide +kernel)
theorem wt_578 : Cond.instanceMethod yX1_copyFrom ∈ WT := wt_of (i := 578) (by decide +kernel) (by decide +kernel)
theorem wt_579 : Cond.selects RX1 yX1_copyFrom yX1_copyFrom ∈ WT := wt_of (i := 579) (by decide +kernel) (by decide +kernel)
theorem wt_580 : Cond.code yX1_copyFrom cX1_copyFrom 2 (Option.none : Option FieldType) ∈ WT := wt_of (i := 580) (by decide +kernel) (by decide +kernel)
theorem wt_581 : Cond.methodLink RX1 33 yX3_copyFrom ∈ WT := wt_of (i := 581) (by decide +kernel) (by decide +kernel)
theorem wt_582 : Cond.methodLink RL 122 yX4_back ∈ WT := wt_of (i := 582) (by decide +kernel) (by decide +kernel)
theorem wt_583 : Cond.instanceMethod yX4_back ∈ WT := wt_of (i := 583) (by decide +kernel) (by decide +kernel)
theorem wt_584 : Cond.selects RX4 yX4_back yX4_back ∈ WT := wt_of (i := 584) (by decide +kernel) (by decide +kernel)
theorem wt_585 : Cond.code yX4_back cX4_back 2 (Option.some FieldType.int) ∈ WT := wt_of (i := 585) (by decide +kernel) (by decide +kernel)
theorem wt_586 : Cond.methodLink RL 126 yX4_count ∈ WT := wt_of (i := 586) (by decide +kernel) (by decide +kernel)
theorem wt_587 : Cond.instanceMethod yX4_count ∈ WT := wt_of (i := 587) (by decide +kernel) (by decide +kernel)
theorem wt_588 : Cond.selects RX4 yX4_count yX4_count ∈ WT := wt_of (i := 588) (by decide +kernel) (by decide +kernel)
theorem wt_589 : Cond.code yX4_count cX4_count 2 (Option.some FieldType.int) ∈ WT := wt_of (i := 589) (by decide +kernel) (by decide +kernel)
theorem wt_590 : Cond.methodLink RL 130 yX4_trace ∈ WT := wt_of (i := 590) (by decide +kernel) (by decide +kernel)
theorem wt_591 : Cond.instanceMethod yX4_trace ∈ WT := wt_of (i := 591) (by decide +kernel) (by decide +kernel)
theorem wt_592 : Cond.selects RX4 yX4_trace yX4_trace ∈ WT := wt_of (i := 592) (by decide +kernel) (by decide +kernel)
theorem wt_593 : Cond.code yX4_trace cX4_trace 1 (Option.some FieldType.long) ∈ WT := wt_of (i := 593) (by decide +kernel) (by decide +kernel)
theorem wt_594 : Cond.classLink RL 10 "ThirstScalesModel" ∈ WT := wt_of (i := 594) (by decide +kernel) (by decide +kernel)
theorem wt_595 : Cond.instantiable RX5 21 ∈ WT := wt_of (i := 595) (by decide +kernel) (by decide +kernel)
theorem wt_596 : Cond.methodLink RL 12 yX5_init ∈ WT := wt_of (i := 596) (by decide +kernel) (by decide +kernel)
theorem wt_597 : Cond.instanceMethod yX5_init ∈ WT := wt_of (i := 597) (by decide +kernel) (by decide +kernel)
theorem wt_598 : Cond.code yX5_init cX5_init 1 (Option.none : Option FieldType) ∈ WT := wt_of (i := 598) (by decide +kernel) (by decide +kernel)
theorem wt_599 : Cond.methodLink RX5 1 objectInit ∈ WT := wt_of (i := 599) (by decide +kernel) (by decide +kernel)
theorem wt_600 : Cond.fieldLink RX5 174 "ThirstScalesModel" "trace" "J" ∈ WT := wt_of (i := 600) (by decide +kernel) (by decide +kernel)
theorem wt_601 : Cond.fieldLink RX5 7 "ThirstScalesModel" "text" "[B" ∈ WT := wt_of (i := 601) (by decide +kernel) (by decide +kernel)
theorem wt_602 : Cond.fieldLink RX5 48 "ThirstScalesModel" "typed" "I" ∈ WT := wt_of (i := 602) (by decide +kernel) (by decide +kernel)
theorem wt_603 : Cond.fieldLink RX5 13 "ThirstScalesModel" "loads" "[I" ∈ WT := wt_of (i := 603) (by decide +kernel) (by decide +kernel)
theorem wt_604 : Cond.fieldLink RX5 17 "ThirstScalesModel" "weights" "[I" ∈ WT := wt_of (i := 604) (by decide +kernel) (by decide +kernel)
theorem wt_605 : Cond.fieldLink RX5 20 "ThirstScalesModel" "tasters" "[I" ∈ WT := wt_of (i := 605) (by decide +kernel) (by decide +kernel)
theorem wt_606 : Cond.fieldLink RX5 23 "ThirstScalesModel" "as" "[I" ∈ WT := wt_of (i := 606) (by decide +kernel) (by decide +kernel)
theorem wt_607 : Cond.fieldLink RX5 26 "ThirstScalesModel" "bs" "[I" ∈ WT := wt_of (i := 607) (by decide +kernel) (by decide +kernel)
theorem wt_608 : Cond.fieldLink RX5 29 "ThirstScalesModel" "ds" "[I" ∈ WT := wt_of (i := 608) (by decide +kernel) (by decide +kernel)
theorem wt_609 : Cond.fieldLink RX5 32 "ThirstScalesModel" "ts" "[I" ∈ WT := wt_of (i := 609) (by decide +kernel) (by decide +kernel)
theorem wt_610 : Cond.fieldLink RX5 35 "ThirstScalesModel" "firstHeat" "[I" ∈ WT := wt_of (i := 610) (by decide +kernel) (by decide +kernel)
theorem wt_611 : Cond.fieldLink RX5 58 "ThirstScalesModel" "at" "I" ∈ WT := wt_of (i := 611) (by decide +kernel) (by decide +kernel)
theorem wt_612 : Cond.fieldLink RX5 65 "ThirstScalesModel" "start" "I" ∈ WT := wt_of (i := 612) (by decide +kernel) (by decide +kernel)
theorem wt_613 : Cond.fieldLink RX5 71 "ThirstScalesModel" "sort" "I" ∈ WT := wt_of (i := 613) (by decide +kernel) (by decide +kernel)
theorem wt_614 : Cond.fieldLink RX5 68 "ThirstScalesModel" "value" "I" ∈ WT := wt_of (i := 614) (by decide +kernel) (by decide +kernel)
theorem wt_615 : Cond.fieldLink RX5 77 "ThirstScalesModel" "fault" "I" ∈ WT := wt_of (i := 615) (by decide +kernel) (by decide +kernel)
theorem wt_616 : Cond.fieldLink RX5 87 "ThirstScalesModel" "hasHeat" "Z" ∈ WT := wt_of (i := 616) (by decide +kernel) (by decide +kernel)
theorem wt_617 : Cond.fieldLink RX5 38 "ThirstScalesModel" "now" "[I" ∈ WT := wt_of (i := 617) (by decide +kernel) (by decide +kernel)
theorem wt_618 : Cond.fieldLink RX5 41 "ThirstScalesModel" "isKept" "[Z" ∈ WT := wt_of (i := 618) (by decide +kernel) (by decide +kernel)
theorem wt_619 : Cond.fieldLink RX5 45 "ThirstScalesModel" "tasting" "[I" ∈ WT := wt_of (i := 619) (by decide +kernel) (by decide +kernel)
theorem wt_620 : Cond.fieldLink RX5 98 "ThirstScalesModel" "tastings" "I" ∈ WT := wt_of (i := 620) (by decide +kernel) (by decide +kernel)
theorem wt_621 : Cond.lays "ThirstScalesModel" "ThirstScalesModel" "trace" "J" ∈ WT := wt_of (i := 621) (by decide +kernel) (by decide +kernel)
theorem wt_622 : Cond.soleField "ThirstScalesModel" "trace" ∈ WT := wt_of (i := 622) (by decide +kernel) (by decide +kernel)
theorem wt_623 : Cond.laysFinal "ThirstScalesModel" "ThirstScalesModel" "text" "[B" ∈ WT := wt_of (i := 623) (by decide +kernel) (by decide +kernel)
theorem wt_624 : Cond.soleField "ThirstScalesModel" "text" ∈ WT := wt_of (i := 624) (by decide +kernel) (by decide +kernel)
theorem wt_625 : Cond.lays "ThirstScalesModel" "ThirstScalesModel" "typed" "I" ∈ WT := wt_of (i := 625) (by decide +kernel) (by decide +kernel)
theorem wt_626 : Cond.soleField "ThirstScalesModel" "typed" ∈ WT := wt_of (i := 626) (by decide +kernel) (by decide +kernel)
theorem wt_627 : Cond.laysFinal "ThirstScalesModel" "ThirstScalesModel" "loads" "[I" ∈ WT := wt_of (i := 627) (by decide +kernel) (by decide +kernel)
theorem wt_628 : Cond.soleField "ThirstScalesModel" "loads" ∈ WT := wt_of (i := 628) (by decide +kernel) (by decide +kernel)
theorem wt_629 : Cond.laysFinal "ThirstScalesModel" "ThirstScalesModel" "weights" "[I" ∈ WT := wt_of (i := 629) (by decide +kernel) (by decide +kernel)
theorem wt_630 : Cond.soleField "ThirstScalesModel" "weights" ∈ WT := wt_of (i := 630) (by decide +kernel) (by decide +kernel)
theorem wt_631 : Cond.laysFinal "ThirstScalesModel" "ThirstScalesModel" "tasters" "[I" ∈ WT := wt_of (i := 631) (by decide +kernel) (by decide +kernel)
theorem wt_632 : Cond.soleField "ThirstScalesModel" "tasters" ∈ WT := wt_of (i := 632) (by decide +kernel) (by decide +kernel)
theorem wt_633 : Cond.laysFinal "ThirstScalesModel" "ThirstScalesModel" "as" "[I" ∈ WT := wt_of (i := 633) (by decide +kernel) (by decide +kernel)
theorem wt_634 : Cond.soleField "ThirstScalesModel" "as" ∈ WT := wt_of (i := 634) (by decide +kernel) (by decide +kernel)
theorem wt_635 : Cond.laysFinal "ThirstScalesModel" "ThirstScalesModel" "bs" "[I" ∈ WT := wt_of (i := 635) (by decide +kernel) (by decide +kernel)
theorem wt_636 : Cond.soleField "ThirstScalesModel" "bs" ∈ WT := wt_of (i := 636) (by decide +kernel) (by decide +kernel)
theorem wt_637 : Cond.laysFinal "ThirstScalesModel" "ThirstScalesModel" "ds" "[I" ∈ WT := wt_of (i := 637) (by decide +kernel) (by decide +kernel)
theorem wt_638 : Cond.soleField "ThirstScalesModel" "ds" ∈ WT := wt_of (i := 638) (by decide +kernel) (by decide +kernel)
theorem wt_639 : Cond.laysFinal "ThirstScalesModel" "ThirstScalesModel" "ts" "[I" ∈ WT := wt_of (i := 639) (by decide +kernel) (by decide +kernel)
theorem wt_640 : Cond.soleField "ThirstScalesModel" "ts" ∈ WT := wt_of (i := 640) (by decide +kernel) (by decide +kernel)
theorem wt_641 : Cond.laysFinal "ThirstScalesModel" "ThirstScalesModel" "firstHeat" "[I" ∈ WT := wt_of (i := 641) (by decide +kernel) (by decide +kernel)
theorem wt_642 : Cond.soleField "ThirstScalesModel" "firstHeat" ∈ WT := wt_of (i := 642) (by decide +kernel) (by decide +kernel)
theorem wt_643 : Cond.lays "ThirstScalesModel" "ThirstScalesModel" "at" "I" ∈ WT := wt_of (i := 643) (by decide +kernel) (by decide +kernel)
theorem wt_644 : Cond.soleField "ThirstScalesModel" "at" ∈ WT := wt_of (i := 644) (by decide +kernel) (by decide +kernel)
theorem wt_645 : Cond.lays "ThirstScalesModel" "ThirstScalesModel" "start" "I" ∈ WT := wt_of (i := 645) (by decide +kernel) (by decide +kernel)
theorem wt_646 : Cond.soleField "ThirstScalesModel" "start" ∈ WT := wt_of (i := 646) (by decide +kernel) (by decide +kernel)
theorem wt_647 : Cond.lays "ThirstScalesModel" "ThirstScalesModel" "sort" "I" ∈ WT := wt_of (i := 647) (by decide +kernel) (by decide +kernel)
theorem wt_648 : Cond.soleField "ThirstScalesModel" "sort" ∈ WT := wt_of (i := 648) (by decide +kernel) (by decide +kernel)
theorem wt_649 : Cond.lays "ThirstScalesModel" "ThirstScalesModel" "value" "I" ∈ WT := wt_of (i := 649) (by decide +kernel) (by decide +kernel)
theorem wt_650 : Cond.soleField "ThirstScalesModel" "value" ∈ WT := wt_of (i := 650) (by decide +kernel) (by decide +kernel)
theorem wt_651 : Cond.lays "ThirstScalesModel" "ThirstScalesModel" "fault" "I" ∈ WT := wt_of (i := 651) (by decide +kernel) (by decide +kernel)
theorem wt_652 : Cond.soleField "ThirstScalesModel" "fault" ∈ WT := wt_of (i := 652) (by decide +kernel) (by decide +kernel)
theorem wt_653 : Cond.lays "ThirstScalesModel" "ThirstScalesModel" "hasHeat" "Z" ∈ WT := wt_of (i := 653) (by decide +kernel) (by decide +kernel)
theorem wt_654 : Cond.soleField "ThirstScalesModel" "hasHeat" ∈ WT := wt_of (i := 654) (by decide +kernel) (by decide +kernel)
theorem wt_655 : Cond.laysFinal "ThirstScalesModel" "ThirstScalesModel" "now" "[I" ∈ WT := wt_of (i := 655) (by decide +kernel) (by decide +kernel)
theorem wt_656 : Cond.soleField "ThirstScalesModel" "now" ∈ WT := wt_of (i := 656) (by decide +kernel) (by decide +kernel)
theorem wt_657 : Cond.laysFinal "ThirstScalesModel" "ThirstScalesModel" "isKept" "[Z" ∈ WT := wt_of (i := 657) (by decide +kernel) (by decide +kernel)
theorem wt_658 : Cond.soleField "ThirstScalesModel" "isKept" ∈ WT := wt_of (i := 658) (by decide +kernel) (by decide +kernel)
theorem wt_659 : Cond.laysFinal "ThirstScalesModel" "ThirstScalesModel" "tasting" "[I" ∈ WT := wt_of (i := 659) (by decide +kernel) (by decide +kernel)
theorem wt_660 : Cond.soleField "ThirstScalesModel" "tasting" ∈ WT := wt_of (i := 660) (by decide +kernel) (by decide +kernel)
theorem wt_661 : Cond.lays "ThirstScalesModel" "ThirstScalesModel" "tastings" "I" ∈ WT := wt_of (i := 661) (by decide +kernel) (by decide +kernel)
theorem wt_662 : Cond.soleField "ThirstScalesModel" "tastings" ∈ WT := wt_of (i := 662) (by decide +kernel) (by decide +kernel)
theorem wt_663 : Cond.superclass "ThirstScalesModel" "java/lang/Object" ∈ WT := wt_of (i := 663) (by decide +kernel) (by decide +kernel)
theorem wt_664 : Cond.arrayClass FieldType.boolean ∈ WT := wt_of (i := 664) (by decide +kernel) (by decide +kernel)
theorem wt_665 : Cond.methodLink RL 19 yX5_type ∈ WT := wt_of (i := 665) (by decide +kernel) (by decide +kernel)
theorem wt_666 : Cond.instanceMethod yX5_type ∈ WT := wt_of (i := 666) (by decide +kernel) (by decide +kernel)
theorem wt_667 : Cond.selects RX5 yX5_type yX5_type ∈ WT := wt_of (i := 667) (by decide +kernel) (by decide +kernel)
theorem wt_668 : Cond.code yX5_type cX5_type 5 (Option.some FieldType.int) ∈ WT := wt_of (i := 668) (by decide +kernel) (by decide +kernel)
theorem wt_669 : Cond.methodLink RX5 52 yX5_in ∈ WT := wt_of (i := 669) (by decide +kernel) (by decide +kernel)
theorem wt_670 : Cond.static yX5_in ∈ WT := wt_of (i := 670) (by decide +kernel) (by decide +kernel)
theorem wt_671 : Cond.code yX5_in cX5_in 3 (Option.some FieldType.boolean) ∈ WT := wt_of (i := 671) (by decide +kernel) (by decide +kernel)
theorem wt_672 : Cond.constantLong RX5 56 (255 : Int64) ∈ WT := wt_of (i := 672) (by decide +kernel) (by decide +kernel)
theorem wt_673 : Cond.methodLink RL 24 yX5_clear ∈ WT := wt_of (i := 673) (by decide +kernel) (by decide +kernel)
theorem wt_674 : Cond.instanceMethod yX5_clear ∈ WT := wt_of (i := 674) (by decide +kernel) (by decide +kernel)
theorem wt_675 : Cond.selects RX5 yX5_clear yX5_clear ∈ WT := wt_of (i := 675) (by decide +kernel) (by decide +kernel)
theorem wt_676 : Cond.code yX5_clear cX5_clear 2 (Option.some FieldType.int) ∈ WT := wt_of (i := 676) (by decide +kernel) (by decide +kernel)
theorem wt_677 : Cond.methodLink RL 28 yX5_gate ∈ WT := wt_of (i := 677) (by decide +kernel) (by decide +kernel)
theorem wt_678 : Cond.instanceMethod yX5_gate ∈ WT := wt_of (i := 678) (by decide +kernel) (by decide +kernel)
theorem wt_679 : Cond.selects RX5 yX5_gate yX5_gate ∈ WT := wt_of (i := 679) (by decide +kernel) (by decide +kernel)
theorem wt_680 : Cond.code yX5_gate cX5_gate 3 (Option.some FieldType.int) ∈ WT := wt_of (i := 680) (by decide +kernel) (by decide +kernel)
theorem wt_681 : Cond.methodLink RX5 80 yX5_step ∈ WT := wt_of (i := 681) (by decide +kernel) (by decide +kernel)
theorem wt_683 : Cond.instanceMethod yX5_step ∈ WT := wt_of (i := 683) (by decide +kernel) (by decide +kernel)
theorem wt_684 : Cond.code yX5_step cX5_step 3 (Option.none : Option FieldType) ∈ WT := wt_of (i := 684) (by decide +kernel) (by decide +kernel)
theorem wt_685 : Cond.methodLink RX5 61 yX5_here ∈ WT := wt_of (i := 685) (by decide +kernel) (by decide +kernel)
theorem wt_687 : Cond.instanceMethod yX5_here ∈ WT := wt_of (i := 687) (by decide +kernel) (by decide +kernel)
theorem wt_688 : Cond.code yX5_here cX5_here 1 (Option.some FieldType.int) ∈ WT := wt_of (i := 688) (by decide +kernel) (by decide +kernel)
theorem wt_689 : Cond.constant RX5 74 (247162 : Int32) ∈ WT := wt_of (i := 689) (by decide +kernel) (by decide +kernel)
theorem wt_690 : Cond.constant RX5 75 (287898291 : Int32) ∈ WT := wt_of (i := 690) (by decide +kernel) (by decide +kernel)
theorem wt_691 : Cond.constant RX5 76 (161156 : Int32) ∈ WT := wt_of (i := 691) (by decide +kernel) (by decide +kernel)
theorem wt_692 : Cond.methodLink RX5 95 yX5_readItem ∈ WT := wt_of (i := 692) (by decide +kernel) (by decide +kernel)
theorem wt_694 : Cond.instanceMethod yX5_readItem ∈ WT := wt_of (i := 694) (by decide +kernel) (by decide +kernel)
theorem wt_695 : Cond.code yX5_readItem cX5_readItem 3 (Option.none : Option FieldType) ∈ WT := wt_of (i := 695) (by decide +kernel) (by decide +kernel)
theorem wt_696 : Cond.methodLink RX5 83 yX5_due ∈ WT := wt_of (i := 696) (by decide +kernel) (by decide +kernel)
theorem wt_698 : Cond.instanceMethod yX5_due ∈ WT := wt_of (i := 698) (by decide +kernel) (by decide +kernel)
theorem wt_699 : Cond.code yX5_due cX5_due 3 (Option.some FieldType.int) ∈ WT := wt_of (i := 699) (by decide +kernel) (by decide +kernel)
theorem wt_700 : Cond.methodLink RX5 91 yX5_number ∈ WT := wt_of (i := 700) (by decide +kernel) (by decide +kernel)
theorem wt_702 : Cond.instanceMethod yX5_number ∈ WT := wt_of (i := 702) (by decide +kernel) (by decide +kernel)
theorem wt_703 : Cond.code yX5_number cX5_number 3 (Option.some FieldType.int) ∈ WT := wt_of (i := 703) (by decide +kernel) (by decide +kernel)
theorem wt_704 : Cond.methodLink RL 33 yX5_load ∈ WT := wt_of (i := 704) (by decide +kernel) (by decide +kernel)
theorem wt_705 : Cond.instanceMethod yX5_load ∈ WT := wt_of (i := 705) (by decide +kernel) (by decide +kernel)
theorem wt_706 : Cond.selects RX5 yX5_load yX5_load ∈ WT := wt_of (i := 706) (by decide +kernel) (by decide +kernel)
theorem wt_707 : Cond.code yX5_load cX5_load 2 (Option.some FieldType.int) ∈ WT := wt_of (i := 707) (by decide +kernel) (by decide +kernel)
theorem wt_708 : Cond.methodLink RX5 105 yX5_isLoad ∈ WT := wt_of (i := 708) (by decide +kernel) (by decide +kernel)
theorem wt_710 : Cond.instanceMethod yX5_isLoad ∈ WT := wt_of (i := 710) (by decide +kernel) (by decide +kernel)
theorem wt_711 : Cond.code yX5_isLoad cX5_isLoad 2 (Option.some FieldType.boolean) ∈ WT := wt_of (i := 711) (by decide +kernel) (by decide +kernel)
theorem wt_712 : Cond.methodLink RL 38 yX5_taster ∈ WT := wt_of (i := 712) (by decide +kernel) (by decide +kernel)
theorem wt_713 : Cond.instanceMethod yX5_taster ∈ WT := wt_of (i := 713) (by decide +kernel) (by decide +kernel)
theorem wt_714 : Cond.selects RX5 yX5_taster yX5_taster ∈ WT := wt_of (i := 714) (by decide +kernel) (by decide +kernel)
theorem wt_715 : Cond.code yX5_taster cX5_taster 3 (Option.some FieldType.int) ∈ WT := wt_of (i := 715) (by decide +kernel) (by decide +kernel)
theorem wt_716 : Cond.methodLink RX5 109 yX5_isTaster ∈ WT := wt_of (i := 716) (by decide +kernel) (by decide +kernel)
theorem wt_718 : Cond.instanceMethod yX5_isTaster ∈ WT := wt_of (i := 718) (by decide +kernel) (by decide +kernel)
theorem wt_719 : Cond.code yX5_isTaster cX5_isTaster 2 (Option.some FieldType.boolean) ∈ WT := wt_of (i := 719) (by decide +kernel) (by decide +kernel)
theorem wt_720 : Cond.methodLink RL 43 yX5_cups ∈ WT := wt_of (i := 720) (by decide +kernel) (by decide +kernel)
theorem wt_721 : Cond.instanceMethod yX5_cups ∈ WT := wt_of (i := 721) (by decide +kernel) (by decide +kernel)
theorem wt_722 : Cond.selects RX5 yX5_cups yX5_cups ∈ WT := wt_of (i := 722) (by decide +kernel) (by decide +kernel)
theorem wt_723 : Cond.code yX5_cups cX5_cups 4 (Option.some FieldType.int) ∈ WT := wt_of (i := 723) (by decide +kernel) (by decide +kernel)
theorem wt_724 : Cond.methodLink RX5 112 yX5_cupsOf ∈ WT := wt_of (i := 724) (by decide +kernel) (by decide +kernel)
theorem wt_726 : Cond.instanceMethod yX5_cupsOf ∈ WT := wt_of (i := 726) (by decide +kernel) (by decide +kernel)
theorem wt_727 : Cond.code yX5_cupsOf cX5_cupsOf 5 (Option.some FieldType.int) ∈ WT := wt_of (i := 727) (by decide +kernel) (by decide +kernel)
theorem wt_728 : Cond.methodLink RX5 101 yX5_byLaw ∈ WT := wt_of (i := 728) (by decide +kernel) (by decide +kernel)
theorem wt_729 : Cond.static yX5_byLaw ∈ WT := wt_of (i := 729) (by decide +kernel) (by decide +kernel)
theorem wt_730 : Cond.code yX5_byLaw cX5_byLaw 8 (Option.some FieldType.int) ∈ WT := wt_of (i := 730) (by decide +kernel) (by decide +kernel)
theorem wt_731 : Cond.methodLink RL 47 yX5_weighs ∈ WT := wt_of (i := 731) (by decide +kernel) (by decide +kernel)
theorem wt_732 : Cond.instanceMethod yX5_weighs ∈ WT := wt_of (i := 732) (by decide +kernel) (by decide +kernel)
theorem wt_733 : Cond.selects RX5 yX5_weighs yX5_weighs ∈ WT := wt_of (i := 733) (by decide +kernel) (by decide +kernel)
theorem wt_734 : Cond.code yX5_weighs cX5_weighs 4 (Option.some FieldType.int) ∈ WT := wt_of (i := 734) (by decide +kernel) (by decide +kernel)
theorem wt_735 : Cond.methodLink RX5 116 yX5_know ∈ WT := wt_of (i := 735) (by decide +kernel) (by decide +kernel)
theorem wt_737 : Cond.instanceMethod yX5_know ∈ WT := wt_of (i := 737) (by decide +kernel) (by decide +kernel)
theorem wt_738 : Cond.code yX5_know cX5_know 6 (Option.none : Option FieldType) ∈ WT := wt_of (i := 738) (by decide +kernel) (by decide +kernel)
theorem wt_739 : Cond.methodLink RL 51 yX5_says ∈ WT := wt_of (i := 739) (by decide +kernel) (by decide +kernel)
theorem wt_740 : Cond.instanceMethod yX5_says ∈ WT := wt_of (i := 740) (by decide +kernel) (by decide +kernel)
theorem wt_741 : Cond.selects RX5 yX5_says yX5_says ∈ WT := wt_of (i := 741) (by decide +kernel) (by decide +kernel)
theorem wt_742 : Cond.code yX5_says cX5_says 4 (Option.some FieldType.int) ∈ WT := wt_of (i := 742) (by decide +kernel) (by decide +kernel)
theorem wt_743 : Cond.methodLink RL 56 yX5_jug ∈ WT := wt_of (i := 743) (by decide +kernel) (by decide +kernel)
theorem wt_744 : Cond.instanceMethod yX5_jug ∈ WT := wt_of (i := 744) (by decide +kernel) (by decide +kernel)
theorem wt_745 : Cond.selects RX5 yX5_jug yX5_jug ∈ WT := wt_of (i := 745) (by decide +kernel) (by decide +kernel)
theorem wt_746 : Cond.code yX5_jug cX5_jug 8 (Option.some FieldType.int) ∈ WT := wt_of (i := 746) (by decide +kernel) (by decide +kernel)
theorem wt_747 : Cond.methodLink RL 60 yX5_night ∈ WT := wt_of (i := 747) (by decide +kernel) (by decide +kernel)
theorem wt_748 : Cond.instanceMethod yX5_night ∈ WT := wt_of (i := 748) (by decide +kernel) (by decide +kernel)
theorem wt_749 : Cond.selects RX5 yX5_night yX5_night ∈ WT := wt_of (i := 749) (by decide +kernel) (by decide +kernel)
theorem wt_750 : Cond.code yX5_night cX5_night 3 (Option.some FieldType.int) ∈ WT := wt_of (i := 750) (by decide +kernel) (by decide +kernel)
theorem wt_751 : Cond.methodLink RL 64 yX5_heat ∈ WT := wt_of (i := 751) (by decide +kernel) (by decide +kernel)
theorem wt_752 : Cond.instanceMethod yX5_heat ∈ WT := wt_of (i := 752) (by decide +kernel) (by decide +kernel)
theorem wt_753 : Cond.selects RX5 yX5_heat yX5_heat ∈ WT := wt_of (i := 753) (by decide +kernel) (by decide +kernel)
theorem wt_754 : Cond.code yX5_heat cX5_heat 3 (Option.some FieldType.int) ∈ WT := wt_of (i := 754) (by decide +kernel) (by decide +kernel)
theorem wt_755 : Cond.methodLink RL 68 yX5_undo ∈ WT := wt_of (i := 755) (by decide +kernel) (by decide +kernel)
theorem wt_756 : Cond.instanceMethod yX5_undo ∈ WT := wt_of (i := 756) (by decide +kernel) (by decide +kernel)
theorem wt_757 : Cond.selects RX5 yX5_undo yX5_undo ∈ WT := wt_of (i := 757) (by decide +kernel) (by decide +kernel)
theorem wt_758 : Cond.code yX5_undo cX5_undo 3 (Option.some FieldType.int) ∈ WT := wt_of (i := 758) (by decide +kernel) (by decide +kernel)
theorem wt_759 : Cond.methodLink RL 72 yX5_known ∈ WT := wt_of (i := 759) (by decide +kernel) (by decide +kernel)
theorem wt_760 : Cond.instanceMethod yX5_known ∈ WT := wt_of (i := 760) (by decide +kernel) (by decide +kernel)
theorem wt_761 : Cond.selects RX5 yX5_known yX5_known ∈ WT := wt_of (i := 761) (by decide +kernel) (by decide +kernel)
theorem wt_762 : Cond.code yX5_known cX5_known 3 (Option.some FieldType.int) ∈ WT := wt_of (i := 762) (by decide +kernel) (by decide +kernel)
theorem wt_763 : Cond.methodLink RL 76 yX5_canBe ∈ WT := wt_of (i := 763) (by decide +kernel) (by decide +kernel)
theorem wt_764 : Cond.instanceMethod yX5_canBe ∈ WT := wt_of (i := 764) (by decide +kernel) (by decide +kernel)
theorem wt_765 : Cond.selects RX5 yX5_canBe yX5_canBe ∈ WT := wt_of (i := 765) (by decide +kernel) (by decide +kernel)
theorem wt_766 : Cond.code yX5_canBe cX5_canBe 5 (Option.some FieldType.int) ∈ WT := wt_of (i := 766) (by decide +kernel) (by decide +kernel)
theorem wt_767 : Cond.methodLink RX5 120 yX5_canBeOf ∈ WT := wt_of (i := 767) (by decide +kernel) (by decide +kernel)
theorem wt_769 : Cond.instanceMethod yX5_canBeOf ∈ WT := wt_of (i := 769) (by decide +kernel) (by decide +kernel)
theorem wt_770 : Cond.code yX5_canBeOf cX5_canBeOf 8 (Option.some FieldType.long) ∈ WT := wt_of (i := 770) (by decide +kernel) (by decide +kernel)
theorem wt_771 : Cond.methodLink RX5 124 yX5_manyOf ∈ WT := wt_of (i := 771) (by decide +kernel) (by decide +kernel)
theorem wt_772 : Cond.static yX5_manyOf ∈ WT := wt_of (i := 772) (by decide +kernel) (by decide +kernel)
theorem wt_773 : Cond.code yX5_manyOf cX5_manyOf 4 (Option.some FieldType.int) ∈ WT := wt_of (i := 773) (by decide +kernel) (by decide +kernel)
theorem wt_774 : Cond.methodLink RX5 128 yX5_least ∈ WT := wt_of (i := 774) (by decide +kernel) (by decide +kernel)
theorem wt_775 : Cond.static yX5_least ∈ WT := wt_of (i := 775) (by decide +kernel) (by decide +kernel)
theorem wt_776 : Cond.code yX5_least cX5_least 3 (Option.some FieldType.int) ∈ WT := wt_of (i := 776) (by decide +kernel) (by decide +kernel)
theorem wt_777 : Cond.methodLink RX5 131 yX5_most ∈ WT := wt_of (i := 777) (by decide +kernel) (by decide +kernel)
theorem wt_778 : Cond.static yX5_most ∈ WT := wt_of (i := 778) (by decide +kernel) (by decide +kernel)
theorem wt_779 : Cond.code yX5_most cX5_most 3 (Option.some FieldType.int) ∈ WT := wt_of (i := 779) (by decide +kernel) (by decide +kernel)
theorem wt_780 : Cond.methodLink RL 80 yX5_next ∈ WT := wt_of (i := 780) (by decide +kernel) (by decide +kernel)
theorem wt_781 : Cond.instanceMethod yX5_next ∈ WT := wt_of (i := 781) (by decide +kernel) (by decide +kernel)
theorem wt_782 : Cond.selects RX5 yX5_next yX5_next ∈ WT := wt_of (i := 782) (by decide +kernel) (by decide +kernel)
theorem wt_783 : Cond.code yX5_next cX5_next 9 (Option.some FieldType.int) ∈ WT := wt_of (i := 783) (by decide +kernel) (by decide +kernel)
theorem wt_784 : Cond.methodLink RX5 140 yX5_worst ∈ WT := wt_of (i := 784) (by decide +kernel) (by decide +kernel)
theorem wt_786 : Cond.instanceMethod yX5_worst ∈ WT := wt_of (i := 786) (by decide +kernel) (by decide +kernel)
theorem wt_787 : Cond.code yX5_worst cX5_worst 9 (Option.some FieldType.int) ∈ WT := wt_of (i := 787) (by decide +kernel) (by decide +kernel)
theorem wt_788 : Cond.methodLink RX5 134 yX5_part ∈ WT := wt_of (i := 788) (by decide +kernel) (by decide +kernel)
theorem wt_790 : Cond.instanceMethod yX5_part ∈ WT := wt_of (i := 790) (by decide +kernel) (by decide +kernel)
theorem wt_791 : Cond.code yX5_part cX5_part 8 (Option.some FieldType.long) ∈ WT := wt_of (i := 791) (by decide +kernel) (by decide +kernel)
theorem wt_792 : Cond.constantLong RX5 138 (-1 : Int64) ∈ WT := wt_of (i := 792) (by decide +kernel) (by decide +kernel)
theorem wt_793 : Cond.methodLink RL 84 yX5_enough ∈ WT := wt_of (i := 793) (by decide +kernel) (by decide +kernel)
theorem wt_794 : Cond.instanceMethod yX5_enough ∈ WT := wt_of (i := 794) (by decide +kernel) (by decide +kernel)
theorem wt_795 : Cond.selects RX5 yX5_enough yX5_enough ∈ WT := wt_of (i := 795) (by decide +kernel) (by decide +kernel)
theorem wt_796 : Cond.code yX5_enough cX5_enough 5 (Option.some FieldType.int) ∈ WT := wt_of (i := 796) (by decide +kernel) (by decide +kernel)
theorem wt_797 : Cond.methodLink RX5 144 yX5_isEnoughByOne ∈ WT := wt_of (i := 797) (by decide +kernel) (by decide +kernel)
theorem wt_799 : Cond.instanceMethod yX5_isEnoughByOne ∈ WT := wt_of (i := 799) (by decide +kernel) (by decide +kernel)
theorem wt_800 : Cond.code yX5_isEnoughByOne cX5_isEnoughByOne 6 (Option.some FieldType.boolean) ∈ WT := wt_of (i := 800) (by decide +kernel) (by decide +kernel)
theorem wt_801 : Cond.methodLink RX5 148 yX5_isEnoughByTwo ∈ WT := wt_of (i := 801) (by decide +kernel) (by decide +kernel)
theorem wt_803 : Cond.instanceMethod yX5_isEnoughByTwo ∈ WT := wt_of (i := 803) (by decide +kernel) (by decide +kernel)
theorem wt_804 : Cond.code yX5_isEnoughByTwo cX5_isEnoughByTwo 10 (Option.some FieldType.boolean) ∈ WT := wt_of (i := 804) (by decide +kernel) (by decide +kernel)
theorem wt_805 : Cond.methodLink RX5 151 yX5_isEnoughByThree ∈ WT := wt_of (i := 805) (by decide +kernel) (by decide +kernel)
theorem wt_807 : Cond.instanceMethod yX5_isEnoughByThree ∈ WT := wt_of (i := 807) (by decide +kernel) (by decide +kernel)
theorem wt_808 : Cond.code yX5_isEnoughByThree cX5_isEnoughByThree 10 (Option.some FieldType.boolean) ∈ WT := wt_of (i := 808) (by decide +kernel) (by decide +kernel)
theorem wt_809 : Cond.methodLink RL 88 yX5_heavier ∈ WT := wt_of (i := 809) (by decide +kernel) (by decide +kernel)
theorem wt_810 : Cond.instanceMethod yX5_heavier ∈ WT := wt_of (i := 810) (by decide +kernel) (by decide +kernel)
theorem wt_811 : Cond.selects RX5 yX5_heavier yX5_heavier ∈ WT := wt_of (i := 811) (by decide +kernel) (by decide +kernel)
theorem wt_812 : Cond.code yX5_heavier cX5_heavier 7 (Option.some FieldType.int) ∈ WT := wt_of (i := 812) (by decide +kernel) (by decide +kernel)
theorem wt_813 : Cond.methodLink RL 93 yX5_told ∈ WT := wt_of (i := 813) (by decide +kernel) (by decide +kernel)
theorem wt_814 : Cond.instanceMethod yX5_told ∈ WT := wt_of (i := 814) (by decide +kernel) (by decide +kernel)
theorem wt_815 : Cond.selects RX5 yX5_told yX5_told ∈ WT := wt_of (i := 815) (by decide +kernel) (by decide +kernel)
theorem wt_816 : Cond.code yX5_told cX5_told 5 (Option.some FieldType.int) ∈ WT := wt_of (i := 816) (by decide +kernel) (by decide +kernel)
theorem wt_817 : Cond.methodLink RX5 154 yX5_isTasting ∈ WT := wt_of (i := 817) (by decide +kernel) (by decide +kernel)
theorem wt_818 : Cond.static yX5_isTasting ∈ WT := wt_of (i := 818) (by decide +kernel) (by decide +kernel)
theorem wt_819 : Cond.code yX5_isTasting cX5_isTasting 3 (Option.some FieldType.boolean) ∈ WT := wt_of (i := 819) (by decide +kernel) (by decide +kernel)
theorem wt_820 : Cond.methodLink RL 97 yX5_forget ∈ WT := wt_of (i := 820) (by decide +kernel) (by decide +kernel)
theorem wt_821 : Cond.instanceMethod yX5_forget ∈ WT := wt_of (i := 821) (by decide +kernel) (by decide +kernel)
theorem wt_822 : Cond.selects RX5 yX5_forget yX5_forget ∈ WT := wt_of (i := 822) (by decide +kernel) (by decide +kernel)
theorem wt_823 : Cond.code yX5_forget cX5_forget 2 (Option.some FieldType.int) ∈ WT := wt_of (i := 823) (by decide +kernel) (by decide +kernel)
theorem wt_824 : Cond.methodLink RL 101 yX5_learnt ∈ WT := wt_of (i := 824) (by decide +kernel) (by decide +kernel)
theorem wt_825 : Cond.instanceMethod yX5_learnt ∈ WT := wt_of (i := 825) (by decide +kernel) (by decide +kernel)
theorem wt_826 : Cond.selects RX5 yX5_learnt yX5_learnt ∈ WT := wt_of (i := 826) (by decide +kernel) (by decide +kernel)
theorem wt_827 : Cond.code yX5_learnt cX5_learnt 5 (Option.some FieldType.int) ∈ WT := wt_of (i := 827) (by decide +kernel) (by decide +kernel)
theorem wt_828 : Cond.methodLink RX5 170 yX5_isAsTold ∈ WT := wt_of (i := 828) (by decide +kernel) (by decide +kernel)
theorem wt_830 : Cond.instanceMethod yX5_isAsTold ∈ WT := wt_of (i := 830) (by decide +kernel) (by decide +kernel)
theorem wt_831 : Cond.code yX5_isAsTold cX5_isAsTold 5 (Option.some FieldType.boolean) ∈ WT := wt_of (i := 831) (by decide +kernel) (by decide +kernel)
theorem wt_832 : Cond.methodLink RX5 157 yX5_aOf ∈ WT := wt_of (i := 832) (by decide +kernel) (by decide +kernel)
theorem wt_833 : Cond.static yX5_aOf ∈ WT := wt_of (i := 833) (by decide +kernel) (by decide +kernel)
theorem wt_834 : Cond.code yX5_aOf cX5_aOf 1 (Option.some FieldType.int) ∈ WT := wt_of (i := 834) (by decide +kernel) (by decide +kernel)
theorem wt_835 : Cond.methodLink RX5 161 yX5_bOf ∈ WT := wt_of (i := 835) (by decide +kernel) (by decide +kernel)
theorem wt_836 : Cond.static yX5_bOf ∈ WT := wt_of (i := 836) (by decide +kernel) (by decide +kernel)
theorem wt_837 : Cond.code yX5_bOf cX5_bOf 1 (Option.some FieldType.int) ∈ WT := wt_of (i := 837) (by decide +kernel) (by decide +kernel)
theorem wt_838 : Cond.methodLink RX5 164 yX5_dOf ∈ WT := wt_of (i := 838) (by decide +kernel) (by decide +kernel)
theorem wt_839 : Cond.static yX5_dOf ∈ WT := wt_of (i := 839) (by decide +kernel) (by decide +kernel)
theorem wt_840 : Cond.code yX5_dOf cX5_dOf 1 (Option.some FieldType.int) ∈ WT := wt_of (i := 840) (by decide +kernel) (by decide +kernel)
theorem wt_841 : Cond.methodLink RX5 167 yX5_tOf ∈ WT := wt_of (i := 841) (by decide +kernel) (by decide +kernel)
theorem wt_842 : Cond.static yX5_tOf ∈ WT := wt_of (i := 842) (by decide +kernel) (by decide +kernel)
theorem wt_843 : Cond.code yX5_tOf cX5_tOf 1 (Option.some FieldType.int) ∈ WT := wt_of (i := 843) (by decide +kernel) (by decide +kernel)
theorem wt_844 : Cond.methodLink RL 105 yX5_may ∈ WT := wt_of (i := 844) (by decide +kernel) (by decide +kernel)
theorem wt_845 : Cond.instanceMethod yX5_may ∈ WT := wt_of (i := 845) (by decide +kernel) (by decide +kernel)
theorem wt_846 : Cond.selects RX5 yX5_may yX5_may ∈ WT := wt_of (i := 846) (by decide +kernel) (by decide +kernel)
theorem wt_847 : Cond.code yX5_may cX5_may 9 (Option.some FieldType.int) ∈ WT := wt_of (i := 847) (by decide +kernel) (by decide +kernel)
theorem wt_848 : Cond.methodLink RL 109 yX5_bribed ∈ WT := wt_of (i := 848) (by decide +kernel) (by decide +kernel)
theorem wt_849 : Cond.instanceMethod yX5_bribed ∈ WT := wt_of (i := 849) (by decide +kernel) (by decide +kernel)
theorem wt_850 : Cond.selects RX5 yX5_bribed yX5_bribed ∈ WT := wt_of (i := 850) (by decide +kernel) (by decide +kernel)
theorem wt_851 : Cond.code yX5_bribed cX5_bribed 5 (Option.some FieldType.int) ∈ WT := wt_of (i := 851) (by decide +kernel) (by decide +kernel)
theorem wt_852 : Cond.methodLink RL 113 yX5_memory ∈ WT := wt_of (i := 852) (by decide +kernel) (by decide +kernel)
theorem wt_853 : Cond.instanceMethod yX5_memory ∈ WT := wt_of (i := 853) (by decide +kernel) (by decide +kernel)
theorem wt_854 : Cond.selects RX5 yX5_memory yX5_memory ∈ WT := wt_of (i := 854) (by decide +kernel) (by decide +kernel)
theorem wt_855 : Cond.code yX5_memory cX5_memory 9 (Option.some FieldType.int) ∈ WT := wt_of (i := 855) (by decide +kernel) (by decide +kernel)
theorem wt_856 : Cond.methodLink RL 117 yX5_mark ∈ WT := wt_of (i := 856) (by decide +kernel) (by decide +kernel)
theorem wt_857 : Cond.instanceMethod yX5_mark ∈ WT := wt_of (i := 857) (by decide +kernel) (by decide +kernel)
theorem wt_858 : Cond.selects RX5 yX5_mark yX5_mark ∈ WT := wt_of (i := 858) (by decide +kernel) (by decide +kernel)
theorem wt_859 : Cond.code yX5_mark cX5_mark 3 (Option.some FieldType.int) ∈ WT := wt_of (i := 859) (by decide +kernel) (by decide +kernel)
theorem wt_860 : Cond.constant RX5 173 (-1000000 : Int32) ∈ WT := wt_of (i := 860) (by decide +kernel) (by decide +kernel)
theorem wt_861 : Cond.constantLong RX5 178 (11 : Int64) ∈ WT := wt_of (i := 861) (by decide +kernel) (by decide +kernel)
theorem wt_862 : Cond.constantLong RX5 180 (101 : Int64) ∈ WT := wt_of (i := 862) (by decide +kernel) (by decide +kernel)
theorem wt_863 : Cond.constantLong RX5 182 (1011 : Int64) ∈ WT := wt_of (i := 863) (by decide +kernel) (by decide +kernel)
theorem wt_864 : Cond.constantLong RX5 184 (10101 : Int64) ∈ WT := wt_of (i := 864) (by decide +kernel) (by decide +kernel)
theorem wt_865 : Cond.constantLong RX5 186 (100001 : Int64) ∈ WT := wt_of (i := 865) (by decide +kernel) (by decide +kernel)
theorem wt_866 : Cond.methodLink RL 121 yX5_keep ∈ WT := wt_of (i := 866) (by decide +kernel) (by decide +kernel)
theorem wt_867 : Cond.instanceMethod yX5_keep ∈ WT := wt_of (i := 867) (by decide +kernel) (by decide +kernel)
theorem wt_868 : Cond.selects RX5 yX5_keep yX5_keep ∈ WT := wt_of (i := 868) (by decide +kernel) (by decide +kernel)
theorem wt_869 : Cond.code yX5_keep cX5_keep 2 (Option.some FieldType.int) ∈ WT := wt_of (i := 869) (by decide +kernel) (by decide +kernel)
theorem wt_870 : Cond.methodLink RX5 188 yX5_copy ∈ WT := wt_of (i := 870) (by decide +kernel) (by decide +kernel)
theorem wt_872 : Cond.instanceMethod yX5_copy ∈ WT := wt_of (i := 872) (by decide +kernel) (by decide +kernel)
theorem wt_873 : Cond.code yX5_copy cX5_copy 4 (Option.none : Option FieldType) ∈ WT := wt_of (i := 873) (by decide +kernel) (by decide +kernel)
theorem wt_874 : Cond.methodLink RL 125 yX5_back ∈ WT := wt_of (i := 874) (by decide +kernel) (by decide +kernel)
theorem wt_875 : Cond.instanceMethod yX5_back ∈ WT := wt_of (i := 875) (by decide +kernel) (by decide +kernel)
theorem wt_876 : Cond.selects RX5 yX5_back yX5_back ∈ WT := wt_of (i := 876) (by decide +kernel) (by decide +kernel)
theorem wt_877 : Cond.code yX5_back cX5_back 2 (Option.some FieldType.int) ∈ WT := wt_of (i := 877) (by decide +kernel) (by decide +kernel)
theorem wt_878 : Cond.methodLink RL 129 yX5_count ∈ WT := wt_of (i := 878) (by decide +kernel) (by decide +kernel)
theorem wt_879 : Cond.instanceMethod yX5_count ∈ WT := wt_of (i := 879) (by decide +kernel) (by decide +kernel)
theorem wt_880 : Cond.selects RX5 yX5_count yX5_count ∈ WT := wt_of (i := 880) (by decide +kernel) (by decide +kernel)
theorem wt_881 : Cond.code yX5_count cX5_count 2 (Option.some FieldType.int) ∈ WT := wt_of (i := 881) (by decide +kernel) (by decide +kernel)
theorem wt_882 : Cond.methodLink RL 134 yX5_trace ∈ WT := wt_of (i := 882) (by decide +kernel) (by decide +kernel)
theorem wt_883 : Cond.instanceMethod yX5_trace ∈ WT := wt_of (i := 883) (by decide +kernel) (by decide +kernel)
theorem wt_884 : Cond.selects RX5 yX5_trace yX5_trace ∈ WT := wt_of (i := 884) (by decide +kernel) (by decide +kernel)
theorem wt_885 : Cond.code yX5_trace cX5_trace 1 (Option.some FieldType.long) ∈ WT := wt_of (i := 885) (by decide +kernel) (by decide +kernel)
theorem wt_886 : Cond.constantLong RL 13 (4294967295 : Int64) ∈ WT := wt_of (i := 886) (by decide +kernel) (by decide +kernel)
theorem wt_887 : Cond.fieldLink RJ0 9 "java/lang/String" "value" "[B" ∈ WT := wt_of (i := 887) (by decide +kernel) (by decide +kernel)
theorem wt_888 : Cond.fieldLink RJ0 15 "java/lang/String" "coder" "B" ∈ WT := wt_of (i := 888) (by decide +kernel) (by decide +kernel)
def Yd (y : MethodName) (n : Nat) : Prop := (y.cls ≠ "java/lang/invoke/MethodHandle" ∧ y.cls ≠ "java/lang/invoke/VarHandle") ∧ (parseMethodDescriptor y.desc).map (fun d => d.parameters.length) = some n
def LkV (own : String) (idx : Nat) (y : MethodName) (bytes : ByteArray) (maxL : Nat) (ret : Option FieldType) (n : Nat) : Prop := Cond.methodLink own idx y ∈ WT ∧ Cond.instanceMethod y ∈ WT ∧ Cond.selects y.cls y y ∈ WT ∧ Cond.initialized y.cls ∈ WT ∧ Cond.code y bytes maxL ret ∈ WT ∧ Yd y n
def LkS (own : String) (idx : Nat) (y : MethodName) (bytes : ByteArray) (maxL : Nat) (ret : Option FieldType) (n : Nat) : Prop := Cond.methodLink own idx y ∈ WT ∧ Cond.static y ∈ WT ∧ Cond.initialized y.cls ∈ WT ∧ Cond.code y bytes maxL ret ∈ WT ∧ Yd y n
def LkI (own : String) (idx : Nat) (y : MethodName) (bytes : ByteArray) (maxL : Nat) (n : Nat) : Prop := Cond.methodLink own idx y ∈ WT ∧ Cond.instanceMethod y ∈ WT ∧ Cond.initialized y.cls ∈ WT ∧ Cond.code y bytes maxL none ∈ WT ∧ Yd y n ∧ y.name = "<init>"
theorem yd_yX4_init : Yd yX4_init 0 := ⟨⟨by decide +kernel, by decide +kernel⟩, by decide +kernel⟩
theorem yd_yX2_init : Yd yX2_init 0 := ⟨⟨by decide +kernel, by decide +kernel⟩, by decide +kernel⟩
theorem yd_yX3_init : Yd yX3_init 1 := ⟨⟨by decide +kernel, by decide +kernel⟩, by decide +kernel⟩
theorem yd_yX1_init : Yd yX1_init 0 := ⟨⟨by decide +kernel, by decide +kernel⟩, by decide +kernel⟩
theorem yd_yX4_type : Yd yX4_type 2 := ⟨⟨by decide +kernel, by decide +kernel⟩, by decide +kernel⟩
theorem yd_yX4_isWithin : Yd yX4_isWithin 3 := ⟨⟨by decide +kernel, by decide +kernel⟩, by decide +kernel⟩
theorem yd_yX3_size : Yd yX3_size 0 := ⟨⟨by decide +kernel, by decide +kernel⟩, by decide +kernel⟩
theorem yd_yX3_add : Yd yX3_add 1 := ⟨⟨by decide +kernel, by decide +kernel⟩, by decide +kernel⟩
theorem yd_yX4_clear : Yd yX4_clear 0 := ⟨⟨by decide +kernel, by decide +kernel⟩, by decide +kernel⟩
theorem yd_yX3_cutTo : Yd yX3_cutTo 1 := ⟨⟨by decide +kernel, by decide +kernel⟩, by decide +kernel⟩
theorem yd_yX4_gate : Yd yX4_gate 0 := ⟨⟨by decide +kernel, by decide +kernel⟩, by decide +kernel⟩
theorem yd_yX2_readsAll : Yd yX2_readsAll 0 := ⟨⟨by decide +kernel, by decide +kernel⟩, by decide +kernel⟩
theorem yd_yX2_beginAnew : Yd yX2_beginAnew 0 := ⟨⟨by decide +kernel, by decide +kernel⟩, by decide +kernel⟩
theorem yd_yX2_readToken : Yd yX2_readToken 0 := ⟨⟨by decide +kernel, by decide +kernel⟩, by decide +kernel⟩
theorem yd_yX3_at : Yd yX3_at 1 := ⟨⟨by decide +kernel, by decide +kernel⟩, by decide +kernel⟩
theorem yd_yX2_isDigit : Yd yX2_isDigit 1 := ⟨⟨by decide +kernel, by decide +kernel⟩, by decide +kernel⟩
theorem yd_yX2_readDigits : Yd yX2_readDigits 0 := ⟨⟨by decide +kernel, by decide +kernel⟩, by decide +kernel⟩
theorem yd_yX2_isLetter : Yd yX2_isLetter 1 := ⟨⟨by decide +kernel, by decide +kernel⟩, by decide +kernel⟩
theorem yd_yX2_readLetters : Yd yX2_readLetters 0 := ⟨⟨by decide +kernel, by decide +kernel⟩, by decide +kernel⟩
theorem yd_yX2_isWord : Yd yX2_isWord 1 := ⟨⟨by decide +kernel, by decide +kernel⟩, by decide +kernel⟩
theorem yd_yJ0_length_8abf5 : Yd yJ0_length_8abf5 0 := ⟨⟨by decide +kernel, by decide +kernel⟩, by decide +kernel⟩
theorem yd_yJ0_coder_7d493 : Yd yJ0_coder_7d493 0 := ⟨⟨by decide +kernel, by decide +kernel⟩, by decide +kernel⟩
theorem yd_yJ0_charAt_5068e : Yd yJ0_charAt_5068e 1 := ⟨⟨by decide +kernel, by decide +kernel⟩, by decide +kernel⟩
theorem yd_yJ0_isLatin1_aae02 : Yd yJ0_isLatin1_aae02 0 := ⟨⟨by decide +kernel, by decide +kernel⟩, by decide +kernel⟩
theorem yd_yJ1_charAt_3b067 : Yd yJ1_charAt_3b067 2 := ⟨⟨by decide +kernel, by decide +kernel⟩, by decide +kernel⟩
theorem yd_yJ0_checkIndex_df160 : Yd yJ0_checkIndex_df160 2 := ⟨⟨by decide +kernel, by decide +kernel⟩, by decide +kernel⟩
theorem yd_yJ3_checkIndex_8e157 : Yd yJ3_checkIndex_8e157 3 := ⟨⟨by decide +kernel, by decide +kernel⟩, by decide +kernel⟩
theorem yd_yJ2_charAt_3b067 : Yd yJ2_charAt_3b067 2 := ⟨⟨by decide +kernel, by decide +kernel⟩, by decide +kernel⟩
theorem yd_yJ2_checkIndex_2214a : Yd yJ2_checkIndex_2214a 2 := ⟨⟨by decide +kernel, by decide +kernel⟩, by decide +kernel⟩
theorem yd_yJ2_length_9d52b : Yd yJ2_length_9d52b 1 := ⟨⟨by decide +kernel, by decide +kernel⟩, by decide +kernel⟩
theorem yd_yJ2_getChar_3b067 : Yd yJ2_getChar_3b067 2 := ⟨⟨by decide +kernel, by decide +kernel⟩, by decide +kernel⟩
theorem yd_yX2_readsLoad : Yd yX2_readsLoad 0 := ⟨⟨by decide +kernel, by decide +kernel⟩, by decide +kernel⟩
theorem yd_yX2_readsNumber : Yd yX2_readsNumber 2 := ⟨⟨by decide +kernel, by decide +kernel⟩, by decide +kernel⟩
theorem yd_yX2_readsEndOfItem : Yd yX2_readsEndOfItem 0 := ⟨⟨by decide +kernel, by decide +kernel⟩, by decide +kernel⟩
theorem yd_yX2_readsTaster : Yd yX2_readsTaster 0 := ⟨⟨by decide +kernel, by decide +kernel⟩, by decide +kernel⟩
theorem yd_yX0_least : Yd yX0_least 1 := ⟨⟨by decide +kernel, by decide +kernel⟩, by decide +kernel⟩
theorem yd_yX0_most : Yd yX0_most 1 := ⟨⟨by decide +kernel, by decide +kernel⟩, by decide +kernel⟩
theorem yd_yX0_numbered : Yd yX0_numbered 4 := ⟨⟨by decide +kernel, by decide +kernel⟩, by decide +kernel⟩
theorem yd_yX2_readsHeat : Yd yX2_readsHeat 0 := ⟨⟨by decide +kernel, by decide +kernel⟩, by decide +kernel⟩
theorem yd_yX2_fault : Yd yX2_fault 0 := ⟨⟨by decide +kernel, by decide +kernel⟩, by decide +kernel⟩
theorem yd_yX3_copyFrom : Yd yX3_copyFrom 1 := ⟨⟨by decide +kernel, by decide +kernel⟩, by decide +kernel⟩
theorem yd_yX1_begin : Yd yX1_begin 2 := ⟨⟨by decide +kernel, by decide +kernel⟩, by decide +kernel⟩
theorem yd_yX4_load : Yd yX4_load 1 := ⟨⟨by decide +kernel, by decide +kernel⟩, by decide +kernel⟩
theorem yd_yX4_isLoad : Yd yX4_isLoad 1 := ⟨⟨by decide +kernel, by decide +kernel⟩, by decide +kernel⟩
theorem yd_yX3_has : Yd yX3_has 1 := ⟨⟨by decide +kernel, by decide +kernel⟩, by decide +kernel⟩
theorem yd_yX4_taster : Yd yX4_taster 2 := ⟨⟨by decide +kernel, by decide +kernel⟩, by decide +kernel⟩
theorem yd_yX4_isTaster : Yd yX4_isTaster 1 := ⟨⟨by decide +kernel, by decide +kernel⟩, by decide +kernel⟩
theorem yd_yX0_part : Yd yX0_part 2 := ⟨⟨by decide +kernel, by decide +kernel⟩, by decide +kernel⟩
theorem yd_yX4_cups : Yd yX4_cups 3 := ⟨⟨by decide +kernel, by decide +kernel⟩, by decide +kernel⟩
theorem yd_yX4_isWeight : Yd yX4_isWeight 1 := ⟨⟨by decide +kernel, by decide +kernel⟩, by decide +kernel⟩
theorem yd_yX0_drinks : Yd yX0_drinks 4 := ⟨⟨by decide +kernel, by decide +kernel⟩, by decide +kernel⟩
theorem yd_yX4_weighs : Yd yX4_weighs 2 := ⟨⟨by decide +kernel, by decide +kernel⟩, by decide +kernel⟩
theorem yd_yX4_facts : Yd yX4_facts 0 := ⟨⟨by decide +kernel, by decide +kernel⟩, by decide +kernel⟩
theorem yd_yX4_thirst : Yd yX4_thirst 2 := ⟨⟨by decide +kernel, by decide +kernel⟩, by decide +kernel⟩
theorem yd_yX4_addFact : Yd yX4_addFact 4 := ⟨⟨by decide +kernel, by decide +kernel⟩, by decide +kernel⟩
theorem yd_yX4_addLick : Yd yX4_addLick 1 := ⟨⟨by decide +kernel, by decide +kernel⟩, by decide +kernel⟩
theorem yd_yX3_put : Yd yX3_put 2 := ⟨⟨by decide +kernel, by decide +kernel⟩, by decide +kernel⟩
theorem yd_yX4_says : Yd yX4_says 3 := ⟨⟨by decide +kernel, by decide +kernel⟩, by decide +kernel⟩
theorem yd_yX4_jug : Yd yX4_jug 5 := ⟨⟨by decide +kernel, by decide +kernel⟩, by decide +kernel⟩
theorem yd_yX4_night : Yd yX4_night 0 := ⟨⟨by decide +kernel, by decide +kernel⟩, by decide +kernel⟩
theorem yd_yX4_heat : Yd yX4_heat 1 := ⟨⟨by decide +kernel, by decide +kernel⟩, by decide +kernel⟩
theorem yd_yX4_undo : Yd yX4_undo 0 := ⟨⟨by decide +kernel, by decide +kernel⟩, by decide +kernel⟩
theorem yd_yX4_fact : Yd yX4_fact 2 := ⟨⟨by decide +kernel, by decide +kernel⟩, by decide +kernel⟩
theorem yd_yX4_known : Yd yX4_known 2 := ⟨⟨by decide +kernel, by decide +kernel⟩, by decide +kernel⟩
theorem yd_yX4_canBe : Yd yX4_canBe 2 := ⟨⟨by decide +kernel, by decide +kernel⟩, by decide +kernel⟩
theorem yd_yX4_greatestOf : Yd yX4_greatestOf 1 := ⟨⟨by decide +kernel, by decide +kernel⟩, by decide +kernel⟩
theorem yd_yX4_canWeigh : Yd yX4_canWeigh 2 := ⟨⟨by decide +kernel, by decide +kernel⟩, by decide +kernel⟩
theorem yd_yX4_drinksIn : Yd yX4_drinksIn 2 := ⟨⟨by decide +kernel, by decide +kernel⟩, by decide +kernel⟩
theorem yd_yX4_leastOf : Yd yX4_leastOf 1 := ⟨⟨by decide +kernel, by decide +kernel⟩, by decide +kernel⟩
theorem yd_yX4_next : Yd yX4_next 2 := ⟨⟨by decide +kernel, by decide +kernel⟩, by decide +kernel⟩
theorem yd_yX4_leftAtWorst : Yd yX4_leftAtWorst 3 := ⟨⟨by decide +kernel, by decide +kernel⟩, by decide +kernel⟩
theorem yd_yX4_endOfSpan : Yd yX4_endOfSpan 4 := ⟨⟨by decide +kernel, by decide +kernel⟩, by decide +kernel⟩
theorem yd_yX4_enough : Yd yX4_enough 2 := ⟨⟨by decide +kernel, by decide +kernel⟩, by decide +kernel⟩
theorem yd_yX4_isEnough : Yd yX4_isEnough 5 := ⟨⟨by decide +kernel, by decide +kernel⟩, by decide +kernel⟩
theorem yd_yX4_isEnoughBy : Yd yX4_isEnoughBy 6 := ⟨⟨by decide +kernel, by decide +kernel⟩, by decide +kernel⟩
theorem yd_yX4_plannedLicks : Yd yX4_plannedLicks 2 := ⟨⟨by decide +kernel, by decide +kernel⟩, by decide +kernel⟩
theorem yd_yX4_planWith : Yd yX4_planWith 2 := ⟨⟨by decide +kernel, by decide +kernel⟩, by decide +kernel⟩
theorem yd_yX4_heavier : Yd yX4_heavier 2 := ⟨⟨by decide +kernel, by decide +kernel⟩, by decide +kernel⟩
theorem yd_yX4_told : Yd yX4_told 4 := ⟨⟨by decide +kernel, by decide +kernel⟩, by decide +kernel⟩
theorem yd_yX4_isTasting : Yd yX4_isTasting 3 := ⟨⟨by decide +kernel, by decide +kernel⟩, by decide +kernel⟩
theorem yd_yX4_toldTastings : Yd yX4_toldTastings 0 := ⟨⟨by decide +kernel, by decide +kernel⟩, by decide +kernel⟩
theorem yd_yX4_forget : Yd yX4_forget 0 := ⟨⟨by decide +kernel, by decide +kernel⟩, by decide +kernel⟩
theorem yd_yX4_learnt : Yd yX4_learnt 1 := ⟨⟨by decide +kernel, by decide +kernel⟩, by decide +kernel⟩
theorem yd_yX4_isAsTold : Yd yX4_isAsTold 1 := ⟨⟨by decide +kernel, by decide +kernel⟩, by decide +kernel⟩
theorem yd_yX4_may : Yd yX4_may 4 := ⟨⟨by decide +kernel, by decide +kernel⟩, by decide +kernel⟩
theorem yd_yX4_bribed : Yd yX4_bribed 0 := ⟨⟨by decide +kernel, by decide +kernel⟩, by decide +kernel⟩
theorem yd_yX4_memory : Yd yX4_memory 4 := ⟨⟨by decide +kernel, by decide +kernel⟩, by decide +kernel⟩
theorem yd_yX4_mark : Yd yX4_mark 2 := ⟨⟨by decide +kernel, by decide +kernel⟩, by decide +kernel⟩
theorem yd_yX4_markOfTaster : Yd yX4_markOfTaster 1 := ⟨⟨by decide +kernel, by decide +kernel⟩, by decide +kernel⟩
theorem yd_yX4_markOfCamel : Yd yX4_markOfCamel 1 := ⟨⟨by decide +kernel, by decide +kernel⟩, by decide +kernel⟩
theorem yd_yX4_markOfChild : Yd yX4_markOfChild 1 := ⟨⟨by decide +kernel, by decide +kernel⟩, by decide +kernel⟩
theorem yd_yX4_markOfFeverish : Yd yX4_markOfFeverish 1 := ⟨⟨by decide +kernel, by decide +kernel⟩, by decide +kernel⟩
theorem yd_yX4_markOfInspector : Yd yX4_markOfInspector 1 := ⟨⟨by decide +kernel, by decide +kernel⟩, by decide +kernel⟩
theorem yd_yX4_markOfWell : Yd yX4_markOfWell 1 := ⟨⟨by decide +kernel, by decide +kernel⟩, by decide +kernel⟩
theorem yd_yX4_keep : Yd yX4_keep 1 := ⟨⟨by decide +kernel, by decide +kernel⟩, by decide +kernel⟩
theorem yd_yX4_imageAt : Yd yX4_imageAt 1 := ⟨⟨by decide +kernel, by decide +kernel⟩, by decide +kernel⟩
theorem yd_yX1_copyFrom : Yd yX1_copyFrom 1 := ⟨⟨by decide +kernel, by decide +kernel⟩, by decide +kernel⟩
theorem yd_yX4_back : Yd yX4_back 1 := ⟨⟨by decide +kernel, by decide +kernel⟩, by decide +kernel⟩
theorem yd_yX4_count : Yd yX4_count 1 := ⟨⟨by decide +kernel, by decide +kernel⟩, by decide +kernel⟩
theorem yd_yX4_trace : Yd yX4_trace 0 := ⟨⟨by decide +kernel, by decide +kernel⟩, by decide +kernel⟩
theorem yd_yX5_init : Yd yX5_init 0 := ⟨⟨by decide +kernel, by decide +kernel⟩, by decide +kernel⟩
theorem yd_yX5_type : Yd yX5_type 2 := ⟨⟨by decide +kernel, by decide +kernel⟩, by decide +kernel⟩
theorem yd_yX5_in : Yd yX5_in 3 := ⟨⟨by decide +kernel, by decide +kernel⟩, by decide +kernel⟩
theorem yd_yX5_clear : Yd yX5_clear 0 := ⟨⟨by decide +kernel, by decide +kernel⟩, by decide +kernel⟩
theorem yd_yX5_gate : Yd yX5_gate 0 := ⟨⟨by decide +kernel, by decide +kernel⟩, by decide +kernel⟩
theorem yd_yX5_step : Yd yX5_step 0 := ⟨⟨by decide +kernel, by decide +kernel⟩, by decide +kernel⟩
theorem yd_yX5_here : Yd yX5_here 0 := ⟨⟨by decide +kernel, by decide +kernel⟩, by decide +kernel⟩
theorem yd_yX5_readItem : Yd yX5_readItem 0 := ⟨⟨by decide +kernel, by decide +kernel⟩, by decide +kernel⟩
theorem yd_yX5_due : Yd yX5_due 1 := ⟨⟨by decide +kernel, by decide +kernel⟩, by decide +kernel⟩
theorem yd_yX5_number : Yd yX5_number 2 := ⟨⟨by decide +kernel, by decide +kernel⟩, by decide +kernel⟩
theorem yd_yX5_load : Yd yX5_load 1 := ⟨⟨by decide +kernel, by decide +kernel⟩, by decide +kernel⟩
theorem yd_yX5_isLoad : Yd yX5_isLoad 1 := ⟨⟨by decide +kernel, by decide +kernel⟩, by decide +kernel⟩
theorem yd_yX5_taster : Yd yX5_taster 2 := ⟨⟨by decide +kernel, by decide +kernel⟩, by decide +kernel⟩
theorem yd_yX5_isTaster : Yd yX5_isTaster 1 := ⟨⟨by decide +kernel, by decide +kernel⟩, by decide +kernel⟩
theorem yd_yX5_cups : Yd yX5_cups 3 := ⟨⟨by decide +kernel, by decide +kernel⟩, by decide +kernel⟩
theorem yd_yX5_cupsOf : Yd yX5_cupsOf 4 := ⟨⟨by decide +kernel, by decide +kernel⟩, by decide +kernel⟩
theorem yd_yX5_byLaw : Yd yX5_byLaw 7 := ⟨⟨by decide +kernel, by decide +kernel⟩, by decide +kernel⟩
theorem yd_yX5_weighs : Yd yX5_weighs 2 := ⟨⟨by decide +kernel, by decide +kernel⟩, by decide +kernel⟩
theorem yd_yX5_know : Yd yX5_know 4 := ⟨⟨by decide +kernel, by decide +kernel⟩, by decide +kernel⟩
theorem yd_yX5_says : Yd yX5_says 3 := ⟨⟨by decide +kernel, by decide +kernel⟩, by decide +kernel⟩
theorem yd_yX5_jug : Yd yX5_jug 5 := ⟨⟨by decide +kernel, by decide +kernel⟩, by decide +kernel⟩
theorem yd_yX5_night : Yd yX5_night 0 := ⟨⟨by decide +kernel, by decide +kernel⟩, by decide +kernel⟩
theorem yd_yX5_heat : Yd yX5_heat 1 := ⟨⟨by decide +kernel, by decide +kernel⟩, by decide +kernel⟩
theorem yd_yX5_undo : Yd yX5_undo 0 := ⟨⟨by decide +kernel, by decide +kernel⟩, by decide +kernel⟩
theorem yd_yX5_known : Yd yX5_known 2 := ⟨⟨by decide +kernel, by decide +kernel⟩, by decide +kernel⟩
theorem yd_yX5_canBe : Yd yX5_canBe 2 := ⟨⟨by decide +kernel, by decide +kernel⟩, by decide +kernel⟩
theorem yd_yX5_canBeOf : Yd yX5_canBeOf 1 := ⟨⟨by decide +kernel, by decide +kernel⟩, by decide +kernel⟩
theorem yd_yX5_manyOf : Yd yX5_manyOf 1 := ⟨⟨by decide +kernel, by decide +kernel⟩, by decide +kernel⟩
theorem yd_yX5_least : Yd yX5_least 1 := ⟨⟨by decide +kernel, by decide +kernel⟩, by decide +kernel⟩
theorem yd_yX5_most : Yd yX5_most 1 := ⟨⟨by decide +kernel, by decide +kernel⟩, by decide +kernel⟩
theorem yd_yX5_next : Yd yX5_next 2 := ⟨⟨by decide +kernel, by decide +kernel⟩, by decide +kernel⟩
theorem yd_yX5_worst : Yd yX5_worst 2 := ⟨⟨by decide +kernel, by decide +kernel⟩, by decide +kernel⟩
theorem yd_yX5_part : Yd yX5_part 2 := ⟨⟨by decide +kernel, by decide +kernel⟩, by decide +kernel⟩
theorem yd_yX5_enough : Yd yX5_enough 2 := ⟨⟨by decide +kernel, by decide +kernel⟩, by decide +kernel⟩
theorem yd_yX5_isEnoughByOne : Yd yX5_isEnoughByOne 2 := ⟨⟨by decide +kernel, by decide +kernel⟩, by decide +kernel⟩
theorem yd_yX5_isEnoughByTwo : Yd yX5_isEnoughByTwo 2 := ⟨⟨by decide +kernel, by decide +kernel⟩, by decide +kernel⟩
theorem yd_yX5_isEnoughByThree : Yd yX5_isEnoughByThree 2 := ⟨⟨by decide +kernel, by decide +kernel⟩, by decide +kernel⟩
theorem yd_yX5_heavier : Yd yX5_heavier 2 := ⟨⟨by decide +kernel, by decide +kernel⟩, by decide +kernel⟩
theorem yd_yX5_told : Yd yX5_told 4 := ⟨⟨by decide +kernel, by decide +kernel⟩, by decide +kernel⟩
theorem yd_yX5_isTasting : Yd yX5_isTasting 3 := ⟨⟨by decide +kernel, by decide +kernel⟩, by decide +kernel⟩
theorem yd_yX5_forget : Yd yX5_forget 0 := ⟨⟨by decide +kernel, by decide +kernel⟩, by decide +kernel⟩
theorem yd_yX5_learnt : Yd yX5_learnt 1 := ⟨⟨by decide +kernel, by decide +kernel⟩, by decide +kernel⟩
theorem yd_yX5_isAsTold : Yd yX5_isAsTold 1 := ⟨⟨by decide +kernel, by decide +kernel⟩, by decide +kernel⟩
theorem yd_yX5_aOf : Yd yX5_aOf 1 := ⟨⟨by decide +kernel, by decide +kernel⟩, by decide +kernel⟩
theorem yd_yX5_bOf : Yd yX5_bOf 1 := ⟨⟨by decide +kernel, by decide +kernel⟩, by decide +kernel⟩
theorem yd_yX5_dOf : Yd yX5_dOf 1 := ⟨⟨by decide +kernel, by decide +kernel⟩, by decide +kernel⟩
theorem yd_yX5_tOf : Yd yX5_tOf 1 := ⟨⟨by decide +kernel, by decide +kernel⟩, by decide +kernel⟩
theorem yd_yX5_may : Yd yX5_may 4 := ⟨⟨by decide +kernel, by decide +kernel⟩, by decide +kernel⟩
theorem yd_yX5_bribed : Yd yX5_bribed 0 := ⟨⟨by decide +kernel, by decide +kernel⟩, by decide +kernel⟩
theorem yd_yX5_memory : Yd yX5_memory 4 := ⟨⟨by decide +kernel, by decide +kernel⟩, by decide +kernel⟩
theorem yd_yX5_mark : Yd yX5_mark 2 := ⟨⟨by decide +kernel, by decide +kernel⟩, by decide +kernel⟩
theorem yd_yX5_keep : Yd yX5_keep 1 := ⟨⟨by decide +kernel, by decide +kernel⟩, by decide +kernel⟩
theorem yd_yX5_copy : Yd yX5_copy 2 := ⟨⟨by decide +kernel, by decide +kernel⟩, by decide +kernel⟩
theorem yd_yX5_back : Yd yX5_back 1 := ⟨⟨by decide +kernel, by decide +kernel⟩, by decide +kernel⟩
theorem yd_yX5_count : Yd yX5_count 1 := ⟨⟨by decide +kernel, by decide +kernel⟩, by decide +kernel⟩
theorem yd_yX5_trace : Yd yX5_trace 0 := ⟨⟨by decide +kernel, by decide +kernel⟩, by decide +kernel⟩
theorem lk_RL_9 : LkI RL 9 yX4_init cX4_init 1 0 := ⟨wt_65, wt_66, wt_52, wt_67, yd_yX4_init, rfl⟩
theorem lk_RX2_11 : LkI RX2 11 yX3_init cX3_init 2 1 := ⟨wt_79, wt_80, wt_54, wt_81, yd_yX3_init, rfl⟩
theorem lk_RX4_18 : LkI RX4 18 yX3_init cX3_init 2 1 := ⟨wt_134, wt_80, wt_54, wt_81, yd_yX3_init, rfl⟩
theorem lk_RX1_11 : LkI RX1 11 yX3_init cX3_init 2 1 := ⟨wt_142, wt_80, wt_54, wt_81, yd_yX3_init, rfl⟩
theorem lk_RL_15 : LkV RL 15 yX4_type cX4_type 5 (Option.some FieldType.int) 2 := ⟨wt_187, wt_188, wt_189, wt_52, wt_190, yd_yX4_type⟩
theorem lk_RX4_55 : LkS RX4 55 yX4_isWithin cX4_isWithin 3 (Option.some FieldType.boolean) 3 := ⟨wt_191, wt_192, wt_52, wt_193, yd_yX4_isWithin⟩
theorem lk_RX4_62 : LkV RX4 62 yX3_size cX3_size 1 (Option.some FieldType.int) 0 := ⟨wt_194, wt_195, wt_196, wt_54, wt_197, yd_yX3_size⟩
theorem lk_RX4_68 : LkV RX4 68 yX3_add cX3_add 2 (Option.none) 1 := ⟨wt_199, wt_200, wt_201, wt_54, wt_202, yd_yX3_add⟩
theorem lk_RL_20 : LkV RL 20 yX4_clear cX4_clear 2 (Option.some FieldType.int) 0 := ⟨wt_203, wt_204, wt_205, wt_52, wt_206, yd_yX4_clear⟩
theorem lk_RX4_71 : LkV RX4 71 yX3_cutTo cX3_cutTo 2 (Option.none) 1 := ⟨wt_207, wt_208, wt_209, wt_54, wt_210, yd_yX3_cutTo⟩
theorem lk_RL_25 : LkV RL 25 yX4_gate cX4_gate 1 (Option.some FieldType.int) 0 := ⟨wt_211, wt_212, wt_213, wt_52, wt_214, yd_yX4_gate⟩
theorem lk_RX4_74 : LkV RX4 74 yX2_readsAll cX2_readsAll 3 (Option.some FieldType.boolean) 0 := ⟨wt_215, wt_216, wt_217, wt_53, wt_218, yd_yX2_readsAll⟩
theorem lk_RX2_54 : LkV RX2 54 yX2_beginAnew cX2_beginAnew 1 (Option.none) 0 := ⟨wt_219, wt_221, wt_0, wt_53, wt_222, yd_yX2_beginAnew⟩
theorem lk_RX2_70 : LkV RX2 70 yX3_cutTo cX3_cutTo 2 (Option.none) 1 := ⟨wt_223, wt_208, wt_209, wt_54, wt_210, yd_yX3_cutTo⟩
theorem lk_RX2_57 : LkV RX2 57 yX2_readToken cX2_readToken 1 (Option.none) 0 := ⟨wt_224, wt_226, wt_1, wt_53, wt_227, yd_yX2_readToken⟩
theorem lk_RX2_73 : LkV RX2 73 yX3_size cX3_size 1 (Option.some FieldType.int) 0 := ⟨wt_228, wt_195, wt_196, wt_54, wt_197, yd_yX3_size⟩
theorem lk_RX2_94 : LkV RX2 94 yX3_at cX3_at 2 (Option.some FieldType.int) 1 := ⟨wt_229, wt_230, wt_231, wt_54, wt_232, yd_yX3_at⟩
theorem lk_RX2_101 : LkS RX2 101 yX2_isDigit cX2_isDigit 1 (Option.some FieldType.boolean) 1 := ⟨wt_233, wt_234, wt_53, wt_235, yd_yX2_isDigit⟩
theorem lk_RX2_105 : LkV RX2 105 yX2_readDigits cX2_readDigits 3 (Option.none) 0 := ⟨wt_236, wt_238, wt_2, wt_53, wt_239, yd_yX2_readDigits⟩
theorem lk_RX2_108 : LkS RX2 108 yX2_isLetter cX2_isLetter 1 (Option.some FieldType.boolean) 1 := ⟨wt_240, wt_241, wt_53, wt_242, yd_yX2_isLetter⟩
theorem lk_RX2_111 : LkV RX2 111 yX2_readLetters cX2_readLetters 1 (Option.none) 0 := ⟨wt_243, wt_245, wt_3, wt_53, wt_246, yd_yX2_readLetters⟩
theorem lk_RX2_116 : LkV RX2 116 yX2_isWord cX2_isWord 3 (Option.some FieldType.boolean) 1 := ⟨wt_248, wt_250, wt_4, wt_53, wt_251, yd_yX2_isWord⟩
theorem lk_RX2_124 : LkV RX2 124 yJ0_length_8abf5 cJ0_length_8abf5 1 (Option.some FieldType.int) 0 := ⟨wt_252, wt_253, wt_254, wt_58, wt_255, yd_yJ0_length_8abf5⟩
theorem lk_RJ0_335 : LkV RJ0 335 yJ0_coder_7d493 cJ0_coder_7d493 1 (Option.some FieldType.byte) 0 := ⟨wt_256, wt_257, wt_258, wt_58, wt_259, yd_yJ0_coder_7d493⟩
theorem lk_RX2_129 : LkV RX2 129 yJ0_charAt_5068e cJ0_charAt_5068e 2 (Option.some FieldType.char) 1 := ⟨wt_262, wt_263, wt_264, wt_58, wt_265, yd_yJ0_charAt_5068e⟩
theorem lk_RJ0_492 : LkV RJ0 492 yJ0_isLatin1_aae02 cJ0_isLatin1_aae02 1 (Option.some FieldType.boolean) 0 := ⟨wt_266, wt_267, wt_268, wt_58, wt_269, yd_yJ0_isLatin1_aae02⟩
theorem lk_RJ0_495 : LkS RJ0 495 yJ1_charAt_3b067 cJ1_charAt_3b067 2 (Option.some FieldType.char) 2 := ⟨wt_270, wt_271, wt_59, wt_272, yd_yJ1_charAt_3b067⟩
theorem lk_RJ1_9 : LkS RJ1 9 yJ0_checkIndex_df160 cJ0_checkIndex_df160 2 (Option.none) 2 := ⟨wt_273, wt_274, wt_58, wt_275, yd_yJ0_checkIndex_df160⟩
theorem lk_RJ0_1059 : LkS RJ0 1059 yJ3_checkIndex_8e157 cJ3_checkIndex_8e157 3 (Option.some FieldType.int) 3 := ⟨wt_278, wt_279, wt_60, wt_280, yd_yJ3_checkIndex_8e157⟩
theorem lk_RJ0_498 : LkS RJ0 498 yJ2_charAt_3b067 cJ2_charAt_3b067 2 (Option.some FieldType.char) 2 := ⟨wt_281, wt_282, wt_61, wt_283, yd_yJ2_charAt_3b067⟩
theorem lk_RJ2_67 : LkS RJ2 67 yJ2_checkIndex_2214a cJ2_checkIndex_2214a 2 (Option.none) 2 := ⟨wt_284, wt_285, wt_61, wt_286, yd_yJ2_checkIndex_2214a⟩
theorem lk_RJ2_48 : LkS RJ2 48 yJ2_length_9d52b cJ2_length_9d52b 1 (Option.some FieldType.int) 1 := ⟨wt_287, wt_288, wt_61, wt_289, yd_yJ2_length_9d52b⟩
theorem lk_RJ2_414 : LkS RJ2 414 yJ0_checkIndex_df160 cJ0_checkIndex_df160 2 (Option.none) 2 := ⟨wt_290, wt_274, wt_58, wt_275, yd_yJ0_checkIndex_df160⟩
theorem lk_RJ2_71 : LkS RJ2 71 yJ2_getChar_3b067 cJ2_getChar_3b067 2 (Option.some FieldType.char) 2 := ⟨wt_291, wt_292, wt_61, wt_293, yd_yJ2_getChar_3b067⟩
theorem lk_RX2_60 : LkV RX2 60 yX2_readsLoad cX2_readsLoad 1 (Option.some FieldType.boolean) 0 := ⟨wt_302, wt_304, wt_5, wt_53, wt_305, yd_yX2_readsLoad⟩
theorem lk_RX2_77 : LkV RX2 77 yX2_readsNumber cX2_readsNumber 3 (Option.some FieldType.boolean) 2 := ⟨wt_306, wt_308, wt_6, wt_53, wt_309, yd_yX2_readsNumber⟩
theorem lk_RX2_81 : LkV RX2 81 yX3_add cX3_add 2 (Option.none) 1 := ⟨wt_310, wt_200, wt_201, wt_54, wt_202, yd_yX3_add⟩
theorem lk_RX2_84 : LkV RX2 84 yX2_readsEndOfItem cX2_readsEndOfItem 1 (Option.some FieldType.boolean) 0 := ⟨wt_311, wt_313, wt_7, wt_53, wt_314, yd_yX2_readsEndOfItem⟩
theorem lk_RX2_64 : LkV RX2 64 yX2_readsTaster cX2_readsTaster 2 (Option.some FieldType.boolean) 0 := ⟨wt_315, wt_317, wt_8, wt_53, wt_318, yd_yX2_readsTaster⟩
theorem lk_RX2_87 : LkS RX2 87 yX0_least cX0_least 1 (Option.some FieldType.int) 1 := ⟨wt_319, wt_320, wt_62, wt_321, yd_yX0_least⟩
theorem lk_RX2_91 : LkS RX2 91 yX0_most cX0_most 1 (Option.some FieldType.int) 1 := ⟨wt_322, wt_323, wt_62, wt_324, yd_yX0_most⟩
theorem lk_RX2_97 : LkS RX2 97 yX0_numbered cX0_numbered 4 (Option.some FieldType.int) 4 := ⟨wt_325, wt_326, wt_62, wt_327, yd_yX0_numbered⟩
theorem lk_RX2_67 : LkV RX2 67 yX2_readsHeat cX2_readsHeat 1 (Option.some FieldType.boolean) 0 := ⟨wt_328, wt_330, wt_9, wt_53, wt_331, yd_yX2_readsHeat⟩
theorem lk_RX4_78 : LkV RX4 78 yX2_fault cX2_fault 1 (Option.some FieldType.int) 0 := ⟨wt_332, wt_333, wt_334, wt_53, wt_335, yd_yX2_fault⟩
theorem lk_RX4_82 : LkV RX4 82 yX3_copyFrom cX3_copyFrom 3 (Option.none) 1 := ⟨wt_336, wt_337, wt_338, wt_54, wt_339, yd_yX3_copyFrom⟩
theorem lk_RX3_23 : LkV RX3 23 yX3_cutTo cX3_cutTo 2 (Option.none) 1 := ⟨wt_340, wt_208, wt_209, wt_54, wt_210, yd_yX3_cutTo⟩
theorem lk_RX3_27 : LkV RX3 27 yX3_size cX3_size 1 (Option.some FieldType.int) 0 := ⟨wt_341, wt_195, wt_196, wt_54, wt_197, yd_yX3_size⟩
theorem lk_RX3_31 : LkV RX3 31 yX3_at cX3_at 2 (Option.some FieldType.int) 1 := ⟨wt_342, wt_230, wt_231, wt_54, wt_232, yd_yX3_at⟩
theorem lk_RX3_35 : LkV RX3 35 yX3_add cX3_add 2 (Option.none) 1 := ⟨wt_343, wt_200, wt_201, wt_54, wt_202, yd_yX3_add⟩
theorem lk_RX4_91 : LkV RX4 91 yX1_begin cX1_begin 4 (Option.none) 2 := ⟨wt_344, wt_345, wt_346, wt_56, wt_347, yd_yX1_begin⟩
theorem lk_RX1_27 : LkV RX1 27 yX3_cutTo cX3_cutTo 2 (Option.none) 1 := ⟨wt_348, wt_208, wt_209, wt_54, wt_210, yd_yX3_cutTo⟩
theorem lk_RX1_30 : LkV RX1 30 yX3_add cX3_add 2 (Option.none) 1 := ⟨wt_349, wt_200, wt_201, wt_54, wt_202, yd_yX3_add⟩
theorem lk_RL_29 : LkV RL 29 yX4_load cX4_load 2 (Option.some FieldType.int) 1 := ⟨wt_351, wt_352, wt_353, wt_52, wt_354, yd_yX4_load⟩
theorem lk_RX4_98 : LkV RX4 98 yX4_isLoad cX4_isLoad 2 (Option.some FieldType.boolean) 1 := ⟨wt_355, wt_357, wt_10, wt_52, wt_358, yd_yX4_isLoad⟩
theorem lk_RX4_210 : LkV RX4 210 yX3_has cX3_has 2 (Option.some FieldType.boolean) 1 := ⟨wt_359, wt_360, wt_361, wt_54, wt_362, yd_yX3_has⟩
theorem lk_RX4_102 : LkV RX4 102 yX3_at cX3_at 2 (Option.some FieldType.int) 1 := ⟨wt_363, wt_230, wt_231, wt_54, wt_232, yd_yX3_at⟩
theorem lk_RL_34 : LkV RL 34 yX4_taster cX4_taster 3 (Option.some FieldType.int) 2 := ⟨wt_364, wt_365, wt_366, wt_52, wt_367, yd_yX4_taster⟩
theorem lk_RX4_106 : LkV RX4 106 yX4_isTaster cX4_isTaster 2 (Option.some FieldType.boolean) 1 := ⟨wt_368, wt_370, wt_11, wt_52, wt_371, yd_yX4_isTaster⟩
theorem lk_RX4_112 : LkS RX4 112 yX0_part cX0_part 2 (Option.some FieldType.int) 2 := ⟨wt_372, wt_373, wt_62, wt_374, yd_yX0_part⟩
theorem lk_RL_39 : LkV RL 39 yX4_cups cX4_cups 4 (Option.some FieldType.int) 3 := ⟨wt_375, wt_376, wt_377, wt_52, wt_378, yd_yX4_cups⟩
theorem lk_RX4_118 : LkS RX4 118 yX4_isWeight cX4_isWeight 1 (Option.some FieldType.boolean) 1 := ⟨wt_379, wt_380, wt_52, wt_381, yd_yX4_isWeight⟩
theorem lk_RX4_122 : LkS RX4 122 yX0_drinks cX0_drinks 6 (Option.some FieldType.int) 4 := ⟨wt_382, wt_383, wt_62, wt_384, yd_yX0_drinks⟩
theorem lk_RX0_9 : LkS RX0 9 yX0_part cX0_part 2 (Option.some FieldType.int) 2 := ⟨wt_385, wt_373, wt_62, wt_374, yd_yX0_part⟩
theorem lk_RL_44 : LkV RL 44 yX4_weighs cX4_weighs 4 (Option.some FieldType.int) 2 := ⟨wt_387, wt_388, wt_389, wt_52, wt_390, yd_yX4_weighs⟩
theorem lk_RX4_126 : LkV RX4 126 yX4_facts cX4_facts 1 (Option.some FieldType.int) 0 := ⟨wt_391, wt_393, wt_12, wt_52, wt_394, yd_yX4_facts⟩
theorem lk_RX4_129 : LkV RX4 129 yX4_thirst cX4_thirst 3 (Option.some FieldType.int) 2 := ⟨wt_395, wt_397, wt_13, wt_52, wt_398, yd_yX4_thirst⟩
theorem lk_RX4_132 : LkV RX4 132 yX4_addFact cX4_addFact 5 (Option.none) 4 := ⟨wt_399, wt_401, wt_14, wt_52, wt_402, yd_yX4_addFact⟩
theorem lk_RX4_136 : LkV RX4 136 yX4_addLick cX4_addLick 2 (Option.none) 1 := ⟨wt_403, wt_405, wt_15, wt_52, wt_406, yd_yX4_addLick⟩
theorem lk_RX4_144 : LkV RX4 144 yX3_put cX3_put 3 (Option.none) 2 := ⟨wt_407, wt_408, wt_409, wt_54, wt_410, yd_yX3_put⟩
theorem lk_RL_48 : LkV RL 48 yX4_says cX4_says 4 (Option.some FieldType.int) 3 := ⟨wt_411, wt_412, wt_413, wt_52, wt_414, yd_yX4_says⟩
theorem lk_RL_52 : LkV RL 52 yX4_jug cX4_jug 8 (Option.some FieldType.int) 5 := ⟨wt_415, wt_416, wt_417, wt_52, wt_418, yd_yX4_jug⟩
theorem lk_RL_57 : LkV RL 57 yX4_night cX4_night 3 (Option.some FieldType.int) 0 := ⟨wt_422, wt_423, wt_424, wt_52, wt_425, yd_yX4_night⟩
theorem lk_RL_61 : LkV RL 61 yX4_heat cX4_heat 3 (Option.some FieldType.int) 1 := ⟨wt_426, wt_427, wt_428, wt_52, wt_429, yd_yX4_heat⟩
theorem lk_RL_65 : LkV RL 65 yX4_undo cX4_undo 3 (Option.some FieldType.int) 0 := ⟨wt_430, wt_431, wt_432, wt_52, wt_433, yd_yX4_undo⟩
theorem lk_RX4_147 : LkV RX4 147 yX4_fact cX4_fact 3 (Option.some FieldType.int) 2 := ⟨wt_434, wt_436, wt_16, wt_52, wt_437, yd_yX4_fact⟩
theorem lk_RL_69 : LkV RL 69 yX4_known cX4_known 3 (Option.some FieldType.int) 2 := ⟨wt_439, wt_440, wt_441, wt_52, wt_442, yd_yX4_known⟩
theorem lk_RL_73 : LkV RL 73 yX4_canBe cX4_canBe 3 (Option.some FieldType.int) 2 := ⟨wt_443, wt_444, wt_445, wt_52, wt_446, yd_yX4_canBe⟩
theorem lk_RX4_155 : LkV RX4 155 yX4_greatestOf cX4_greatestOf 3 (Option.some FieldType.int) 1 := ⟨wt_447, wt_449, wt_17, wt_52, wt_450, yd_yX4_greatestOf⟩
theorem lk_RX4_213 : LkV RX4 213 yX4_canWeigh cX4_canWeigh 5 (Option.some FieldType.boolean) 2 := ⟨wt_451, wt_453, wt_18, wt_52, wt_454, yd_yX4_canWeigh⟩
theorem lk_RX4_178 : LkV RX4 178 yX4_drinksIn cX4_drinksIn 3 (Option.some FieldType.int) 2 := ⟨wt_455, wt_457, wt_19, wt_52, wt_458, yd_yX4_drinksIn⟩
theorem lk_RX4_158 : LkV RX4 158 yX4_leastOf cX4_leastOf 3 (Option.some FieldType.int) 1 := ⟨wt_459, wt_461, wt_20, wt_52, wt_462, yd_yX4_leastOf⟩
theorem lk_RL_77 : LkV RL 77 yX4_next cX4_next 9 (Option.some FieldType.int) 2 := ⟨wt_463, wt_464, wt_465, wt_52, wt_466, yd_yX4_next⟩
theorem lk_RX4_161 : LkV RX4 161 yX4_leftAtWorst cX4_leftAtWorst 8 (Option.some FieldType.int) 3 := ⟨wt_467, wt_469, wt_21, wt_52, wt_470, yd_yX4_leftAtWorst⟩
theorem lk_RX4_217 : LkV RX4 217 yX4_endOfSpan cX4_endOfSpan 7 (Option.some FieldType.int) 4 := ⟨wt_471, wt_473, wt_22, wt_52, wt_474, yd_yX4_endOfSpan⟩
theorem lk_RL_81 : LkV RL 81 yX4_enough cX4_enough 6 (Option.some FieldType.int) 2 := ⟨wt_475, wt_476, wt_477, wt_52, wt_478, yd_yX4_enough⟩
theorem lk_RX4_165 : LkV RX4 165 yX4_isEnough cX4_isEnough 7 (Option.some FieldType.boolean) 5 := ⟨wt_479, wt_481, wt_23, wt_52, wt_482, yd_yX4_isEnough⟩
theorem lk_RX4_220 : LkV RX4 220 yX4_isEnoughBy cX4_isEnoughBy 11 (Option.some FieldType.boolean) 6 := ⟨wt_483, wt_485, wt_24, wt_52, wt_486, yd_yX4_isEnoughBy⟩
theorem lk_RX4_224 : LkS RX4 224 yX4_plannedLicks cX4_plannedLicks 2 (Option.some FieldType.int) 2 := ⟨wt_487, wt_488, wt_52, wt_489, yd_yX4_plannedLicks⟩
theorem lk_RX4_227 : LkS RX4 227 yX4_planWith cX4_planWith 2 (Option.some FieldType.int) 2 := ⟨wt_490, wt_491, wt_52, wt_492, yd_yX4_planWith⟩
theorem lk_RL_85 : LkV RL 85 yX4_heavier cX4_heavier 3 (Option.some FieldType.int) 2 := ⟨wt_493, wt_494, wt_495, wt_52, wt_496, yd_yX4_heavier⟩
theorem lk_RL_89 : LkV RL 89 yX4_told cX4_told 5 (Option.some FieldType.int) 4 := ⟨wt_497, wt_498, wt_499, wt_52, wt_500, yd_yX4_told⟩
theorem lk_RX4_169 : LkS RX4 169 yX4_isTasting cX4_isTasting 3 (Option.some FieldType.boolean) 3 := ⟨wt_501, wt_502, wt_52, wt_503, yd_yX4_isTasting⟩
theorem lk_RX4_172 : LkV RX4 172 yX4_toldTastings cX4_toldTastings 1 (Option.some FieldType.int) 0 := ⟨wt_504, wt_506, wt_25, wt_52, wt_507, yd_yX4_toldTastings⟩
theorem lk_RL_94 : LkV RL 94 yX4_forget cX4_forget 2 (Option.some FieldType.int) 0 := ⟨wt_508, wt_509, wt_510, wt_52, wt_511, yd_yX4_forget⟩
theorem lk_RL_98 : LkV RL 98 yX4_learnt cX4_learnt 4 (Option.some FieldType.int) 1 := ⟨wt_512, wt_513, wt_514, wt_52, wt_515, yd_yX4_learnt⟩
theorem lk_RX4_175 : LkV RX4 175 yX4_isAsTold cX4_isAsTold 4 (Option.some FieldType.boolean) 1 := ⟨wt_516, wt_518, wt_26, wt_52, wt_519, yd_yX4_isAsTold⟩
theorem lk_RL_102 : LkV RL 102 yX4_may cX4_may 9 (Option.some FieldType.int) 4 := ⟨wt_520, wt_521, wt_522, wt_52, wt_523, yd_yX4_may⟩
theorem lk_RL_106 : LkV RL 106 yX4_bribed cX4_bribed 5 (Option.some FieldType.int) 0 := ⟨wt_524, wt_525, wt_526, wt_52, wt_527, yd_yX4_bribed⟩
theorem lk_RL_110 : LkV RL 110 yX4_memory cX4_memory 8 (Option.some FieldType.int) 4 := ⟨wt_528, wt_529, wt_530, wt_52, wt_531, yd_yX4_memory⟩
theorem lk_RL_114 : LkV RL 114 yX4_mark cX4_mark 3 (Option.some FieldType.int) 2 := ⟨wt_535, wt_536, wt_537, wt_52, wt_538, yd_yX4_mark⟩
theorem lk_RX4_185 : LkV RX4 185 yX4_markOfTaster cX4_markOfTaster 2 (Option.some FieldType.int) 1 := ⟨wt_540, wt_542, wt_27, wt_52, wt_543, yd_yX4_markOfTaster⟩
theorem lk_RX4_188 : LkV RX4 188 yX4_markOfCamel cX4_markOfCamel 2 (Option.some FieldType.int) 1 := ⟨wt_544, wt_546, wt_28, wt_52, wt_547, yd_yX4_markOfCamel⟩
theorem lk_RX4_191 : LkV RX4 191 yX4_markOfChild cX4_markOfChild 2 (Option.some FieldType.int) 1 := ⟨wt_549, wt_551, wt_29, wt_52, wt_552, yd_yX4_markOfChild⟩
theorem lk_RX4_194 : LkV RX4 194 yX4_markOfFeverish cX4_markOfFeverish 2 (Option.some FieldType.int) 1 := ⟨wt_554, wt_556, wt_30, wt_52, wt_557, yd_yX4_markOfFeverish⟩
theorem lk_RX4_197 : LkV RX4 197 yX4_markOfInspector cX4_markOfInspector 2 (Option.some FieldType.int) 1 := ⟨wt_559, wt_561, wt_31, wt_52, wt_562, yd_yX4_markOfInspector⟩
theorem lk_RX4_200 : LkV RX4 200 yX4_markOfWell cX4_markOfWell 2 (Option.some FieldType.int) 1 := ⟨wt_564, wt_566, wt_32, wt_52, wt_567, yd_yX4_markOfWell⟩
theorem lk_RL_118 : LkV RL 118 yX4_keep cX4_keep 2 (Option.some FieldType.int) 1 := ⟨wt_569, wt_570, wt_571, wt_52, wt_572, yd_yX4_keep⟩
theorem lk_RX4_203 : LkV RX4 203 yX4_imageAt cX4_imageAt 2 (Option.some (FieldType.object "ThirstScales$Now")) 1 := ⟨wt_573, wt_575, wt_33, wt_52, wt_576, yd_yX4_imageAt⟩
theorem lk_RX4_207 : LkV RX4 207 yX1_copyFrom cX1_copyFrom 2 (Option.none) 1 := ⟨wt_577, wt_578, wt_579, wt_56, wt_580, yd_yX1_copyFrom⟩
theorem lk_RX1_33 : LkV RX1 33 yX3_copyFrom cX3_copyFrom 3 (Option.none) 1 := ⟨wt_581, wt_337, wt_338, wt_54, wt_339, yd_yX3_copyFrom⟩
theorem lk_RL_122 : LkV RL 122 yX4_back cX4_back 2 (Option.some FieldType.int) 1 := ⟨wt_582, wt_583, wt_584, wt_52, wt_585, yd_yX4_back⟩
theorem lk_RL_126 : LkV RL 126 yX4_count cX4_count 2 (Option.some FieldType.int) 1 := ⟨wt_586, wt_587, wt_588, wt_52, wt_589, yd_yX4_count⟩
theorem lk_RL_130 : LkV RL 130 yX4_trace cX4_trace 1 (Option.some FieldType.long) 0 := ⟨wt_590, wt_591, wt_592, wt_52, wt_593, yd_yX4_trace⟩
theorem lk_RL_12 : LkI RL 12 yX5_init cX5_init 1 0 := ⟨wt_596, wt_597, wt_57, wt_598, yd_yX5_init, rfl⟩
theorem lk_RL_19 : LkV RL 19 yX5_type cX5_type 5 (Option.some FieldType.int) 2 := ⟨wt_665, wt_666, wt_667, wt_57, wt_668, yd_yX5_type⟩
theorem lk_RX5_52 : LkS RX5 52 yX5_in cX5_in 3 (Option.some FieldType.boolean) 3 := ⟨wt_669, wt_670, wt_57, wt_671, yd_yX5_in⟩
theorem lk_RL_24 : LkV RL 24 yX5_clear cX5_clear 2 (Option.some FieldType.int) 0 := ⟨wt_673, wt_674, wt_675, wt_57, wt_676, yd_yX5_clear⟩
theorem lk_RL_28 : LkV RL 28 yX5_gate cX5_gate 3 (Option.some FieldType.int) 0 := ⟨wt_677, wt_678, wt_679, wt_57, wt_680, yd_yX5_gate⟩
theorem lk_RX5_80 : LkV RX5 80 yX5_step cX5_step 3 (Option.none) 0 := ⟨wt_681, wt_683, wt_34, wt_57, wt_684, yd_yX5_step⟩
theorem lk_RX5_61 : LkV RX5 61 yX5_here cX5_here 1 (Option.some FieldType.int) 0 := ⟨wt_685, wt_687, wt_35, wt_57, wt_688, yd_yX5_here⟩
theorem lk_RX5_95 : LkV RX5 95 yX5_readItem cX5_readItem 3 (Option.none) 0 := ⟨wt_692, wt_694, wt_36, wt_57, wt_695, yd_yX5_readItem⟩
theorem lk_RX5_83 : LkV RX5 83 yX5_due cX5_due 3 (Option.some FieldType.int) 1 := ⟨wt_696, wt_698, wt_37, wt_57, wt_699, yd_yX5_due⟩
theorem lk_RX5_91 : LkV RX5 91 yX5_number cX5_number 3 (Option.some FieldType.int) 2 := ⟨wt_700, wt_702, wt_38, wt_57, wt_703, yd_yX5_number⟩
theorem lk_RL_33 : LkV RL 33 yX5_load cX5_load 2 (Option.some FieldType.int) 1 := ⟨wt_704, wt_705, wt_706, wt_57, wt_707, yd_yX5_load⟩
theorem lk_RX5_105 : LkV RX5 105 yX5_isLoad cX5_isLoad 2 (Option.some FieldType.boolean) 1 := ⟨wt_708, wt_710, wt_39, wt_57, wt_711, yd_yX5_isLoad⟩
theorem lk_RL_38 : LkV RL 38 yX5_taster cX5_taster 3 (Option.some FieldType.int) 2 := ⟨wt_712, wt_713, wt_714, wt_57, wt_715, yd_yX5_taster⟩
theorem lk_RX5_109 : LkV RX5 109 yX5_isTaster cX5_isTaster 2 (Option.some FieldType.boolean) 1 := ⟨wt_716, wt_718, wt_40, wt_57, wt_719, yd_yX5_isTaster⟩
theorem lk_RL_43 : LkV RL 43 yX5_cups cX5_cups 4 (Option.some FieldType.int) 3 := ⟨wt_720, wt_721, wt_722, wt_57, wt_723, yd_yX5_cups⟩
theorem lk_RX5_112 : LkV RX5 112 yX5_cupsOf cX5_cupsOf 5 (Option.some FieldType.int) 4 := ⟨wt_724, wt_726, wt_41, wt_57, wt_727, yd_yX5_cupsOf⟩
theorem lk_RX5_101 : LkS RX5 101 yX5_byLaw cX5_byLaw 8 (Option.some FieldType.int) 7 := ⟨wt_728, wt_729, wt_57, wt_730, yd_yX5_byLaw⟩
theorem lk_RL_47 : LkV RL 47 yX5_weighs cX5_weighs 4 (Option.some FieldType.int) 2 := ⟨wt_731, wt_732, wt_733, wt_57, wt_734, yd_yX5_weighs⟩
theorem lk_RX5_116 : LkV RX5 116 yX5_know cX5_know 6 (Option.none) 4 := ⟨wt_735, wt_737, wt_42, wt_57, wt_738, yd_yX5_know⟩
theorem lk_RL_51 : LkV RL 51 yX5_says cX5_says 4 (Option.some FieldType.int) 3 := ⟨wt_739, wt_740, wt_741, wt_57, wt_742, yd_yX5_says⟩
theorem lk_RL_56 : LkV RL 56 yX5_jug cX5_jug 8 (Option.some FieldType.int) 5 := ⟨wt_743, wt_744, wt_745, wt_57, wt_746, yd_yX5_jug⟩
theorem lk_RL_60 : LkV RL 60 yX5_night cX5_night 3 (Option.some FieldType.int) 0 := ⟨wt_747, wt_748, wt_749, wt_57, wt_750, yd_yX5_night⟩
theorem lk_RL_64 : LkV RL 64 yX5_heat cX5_heat 3 (Option.some FieldType.int) 1 := ⟨wt_751, wt_752, wt_753, wt_57, wt_754, yd_yX5_heat⟩
theorem lk_RL_68 : LkV RL 68 yX5_undo cX5_undo 3 (Option.some FieldType.int) 0 := ⟨wt_755, wt_756, wt_757, wt_57, wt_758, yd_yX5_undo⟩
theorem lk_RL_72 : LkV RL 72 yX5_known cX5_known 3 (Option.some FieldType.int) 2 := ⟨wt_759, wt_760, wt_761, wt_57, wt_762, yd_yX5_known⟩
theorem lk_RL_76 : LkV RL 76 yX5_canBe cX5_canBe 5 (Option.some FieldType.int) 2 := ⟨wt_763, wt_764, wt_765, wt_57, wt_766, yd_yX5_canBe⟩
theorem lk_RX5_120 : LkV RX5 120 yX5_canBeOf cX5_canBeOf 8 (Option.some FieldType.long) 1 := ⟨wt_767, wt_769, wt_43, wt_57, wt_770, yd_yX5_canBeOf⟩
theorem lk_RX5_124 : LkS RX5 124 yX5_manyOf cX5_manyOf 4 (Option.some FieldType.int) 1 := ⟨wt_771, wt_772, wt_57, wt_773, yd_yX5_manyOf⟩
theorem lk_RX5_128 : LkS RX5 128 yX5_least cX5_least 3 (Option.some FieldType.int) 1 := ⟨wt_774, wt_775, wt_57, wt_776, yd_yX5_least⟩
theorem lk_RX5_131 : LkS RX5 131 yX5_most cX5_most 3 (Option.some FieldType.int) 1 := ⟨wt_777, wt_778, wt_57, wt_779, yd_yX5_most⟩
theorem lk_RL_80 : LkV RL 80 yX5_next cX5_next 9 (Option.some FieldType.int) 2 := ⟨wt_780, wt_781, wt_782, wt_57, wt_783, yd_yX5_next⟩
theorem lk_RX5_140 : LkV RX5 140 yX5_worst cX5_worst 9 (Option.some FieldType.int) 2 := ⟨wt_784, wt_786, wt_44, wt_57, wt_787, yd_yX5_worst⟩
theorem lk_RX5_134 : LkV RX5 134 yX5_part cX5_part 8 (Option.some FieldType.long) 2 := ⟨wt_788, wt_790, wt_45, wt_57, wt_791, yd_yX5_part⟩
theorem lk_RL_84 : LkV RL 84 yX5_enough cX5_enough 5 (Option.some FieldType.int) 2 := ⟨wt_793, wt_794, wt_795, wt_57, wt_796, yd_yX5_enough⟩
theorem lk_RX5_144 : LkV RX5 144 yX5_isEnoughByOne cX5_isEnoughByOne 6 (Option.some FieldType.boolean) 2 := ⟨wt_797, wt_799, wt_46, wt_57, wt_800, yd_yX5_isEnoughByOne⟩
theorem lk_RX5_148 : LkV RX5 148 yX5_isEnoughByTwo cX5_isEnoughByTwo 10 (Option.some FieldType.boolean) 2 := ⟨wt_801, wt_803, wt_47, wt_57, wt_804, yd_yX5_isEnoughByTwo⟩
theorem lk_RX5_151 : LkV RX5 151 yX5_isEnoughByThree cX5_isEnoughByThree 10 (Option.some FieldType.boolean) 2 := ⟨wt_805, wt_807, wt_48, wt_57, wt_808, yd_yX5_isEnoughByThree⟩
theorem lk_RL_88 : LkV RL 88 yX5_heavier cX5_heavier 7 (Option.some FieldType.int) 2 := ⟨wt_809, wt_810, wt_811, wt_57, wt_812, yd_yX5_heavier⟩
theorem lk_RL_93 : LkV RL 93 yX5_told cX5_told 5 (Option.some FieldType.int) 4 := ⟨wt_813, wt_814, wt_815, wt_57, wt_816, yd_yX5_told⟩
theorem lk_RX5_154 : LkS RX5 154 yX5_isTasting cX5_isTasting 3 (Option.some FieldType.boolean) 3 := ⟨wt_817, wt_818, wt_57, wt_819, yd_yX5_isTasting⟩
theorem lk_RL_97 : LkV RL 97 yX5_forget cX5_forget 2 (Option.some FieldType.int) 0 := ⟨wt_820, wt_821, wt_822, wt_57, wt_823, yd_yX5_forget⟩
theorem lk_RL_101 : LkV RL 101 yX5_learnt cX5_learnt 5 (Option.some FieldType.int) 1 := ⟨wt_824, wt_825, wt_826, wt_57, wt_827, yd_yX5_learnt⟩
theorem lk_RX5_170 : LkV RX5 170 yX5_isAsTold cX5_isAsTold 5 (Option.some FieldType.boolean) 1 := ⟨wt_828, wt_830, wt_49, wt_57, wt_831, yd_yX5_isAsTold⟩
theorem lk_RX5_157 : LkS RX5 157 yX5_aOf cX5_aOf 1 (Option.some FieldType.int) 1 := ⟨wt_832, wt_833, wt_57, wt_834, yd_yX5_aOf⟩
theorem lk_RX5_161 : LkS RX5 161 yX5_bOf cX5_bOf 1 (Option.some FieldType.int) 1 := ⟨wt_835, wt_836, wt_57, wt_837, yd_yX5_bOf⟩
theorem lk_RX5_164 : LkS RX5 164 yX5_dOf cX5_dOf 1 (Option.some FieldType.int) 1 := ⟨wt_838, wt_839, wt_57, wt_840, yd_yX5_dOf⟩
theorem lk_RX5_167 : LkS RX5 167 yX5_tOf cX5_tOf 1 (Option.some FieldType.int) 1 := ⟨wt_841, wt_842, wt_57, wt_843, yd_yX5_tOf⟩
theorem lk_RL_105 : LkV RL 105 yX5_may cX5_may 9 (Option.some FieldType.int) 4 := ⟨wt_844, wt_845, wt_846, wt_57, wt_847, yd_yX5_may⟩
theorem lk_RL_109 : LkV RL 109 yX5_bribed cX5_bribed 5 (Option.some FieldType.int) 0 := ⟨wt_848, wt_849, wt_850, wt_57, wt_851, yd_yX5_bribed⟩
theorem lk_RL_113 : LkV RL 113 yX5_memory cX5_memory 9 (Option.some FieldType.int) 4 := ⟨wt_852, wt_853, wt_854, wt_57, wt_855, yd_yX5_memory⟩
theorem lk_RL_117 : LkV RL 117 yX5_mark cX5_mark 3 (Option.some FieldType.int) 2 := ⟨wt_856, wt_857, wt_858, wt_57, wt_859, yd_yX5_mark⟩
theorem lk_RL_121 : LkV RL 121 yX5_keep cX5_keep 2 (Option.some FieldType.int) 1 := ⟨wt_866, wt_867, wt_868, wt_57, wt_869, yd_yX5_keep⟩
theorem lk_RX5_188 : LkV RX5 188 yX5_copy cX5_copy 4 (Option.none) 2 := ⟨wt_870, wt_872, wt_50, wt_57, wt_873, yd_yX5_copy⟩
theorem lk_RL_125 : LkV RL 125 yX5_back cX5_back 2 (Option.some FieldType.int) 1 := ⟨wt_874, wt_875, wt_876, wt_57, wt_877, yd_yX5_back⟩
theorem lk_RL_129 : LkV RL 129 yX5_count cX5_count 2 (Option.some FieldType.int) 1 := ⟨wt_878, wt_879, wt_880, wt_57, wt_881, yd_yX5_count⟩
theorem lk_RL_134 : LkV RL 134 yX5_trace cX5_trace 1 (Option.some FieldType.long) 0 := ⟨wt_882, wt_883, wt_884, wt_57, wt_885, yd_yX5_trace⟩
end
section
abbrev cls5 : List vw_C := [(RX1, TX1, 3), (RX2, TX2, 11), (RX3, TX3, 2), (RX4, TX4, 10), (RX5, TX5, 21)]
abbrev tys3 (G : ClassId × ClassId × ClassId) : List (ClassId × FieldType) := [(G.1, .int), (G.2.1, .byte), (G.2.2, .boolean)]
abbrev wM (y : MethodName) (cc : ByteArray) (n : Nat) (ret : Option FieldType) : List Cond := Cond.code y cc n ret :: WT
abbrev rmD (d : Nat) : Room := { frames := d, cells := 0, slots := 0, locals := 40 * d }
theorem WT_good : WT.all goodWord = true := List.all_eq_true.mpr fun w h => (List.mem_filter.mp h).2
theorem gW {y1 y : MethodName} {c1 cc : ByteArray} {n1 n : Nat} {r1 r : Option FieldType} (h1 : Cond.code y cc n r ∈ WT) : GoodIn (wM y1 c1 n1 r1) (wM y cc n r) := by
  intro w hw
  rcases List.mem_cons.mp hw with h | h
  · subst h; exact ⟨List.mem_cons_of_mem _ h1, good_of_word (List.all_eq_true.mp WT_good _ h1)⟩
  · exact ⟨List.mem_cons_of_mem _ h, good_of_word (List.all_eq_true.mp WT_good _ h)⟩
theorem gWT {y : MethodName} {cc : ByteArray} {n : Nat} {r : Option FieldType} (h1 : Cond.code y cc n r ∈ WT) : GoodIn lw_tbl (wM y cc n r) := by
  intro w hw
  rcases List.mem_cons.mp hw with h | h
  · subst h; exact ⟨(List.mem_filter.mp h1).1, good_of_word (List.all_eq_true.mp WT_good _ h1)⟩
  · exact ⟨(List.mem_filter.mp h).1, good_of_word (List.all_eq_true.mp WT_good _ h)⟩
section KW
variable {p : Program} {l : Launch} {e : Env} {R : Room} {s : State} {m : MethodId} {args : Array Value} {below : List Frame} {meth : Method} {c : Code} {H : Heap} {locs : List Loc} {cells slots : Nat} {Q : State → Prop}
variable {Ts : List Cond} {cc bytes : ByteArray} {nL maxL idx n mc ms : Nat} {own : String} {y : MethodName} {ret : Option FieldType} {rm : Room} {Pc : Array Value → State → Prop} {Qc : Array Value → State → Outcome → State → Prop} {free : Addr → Prop}
theorem cwVW (hT : ∀ w ∈ Ts, w.before args s = true) (hG : ∀ (y : MethodName) (cc : ByteArray) (n : Nat) (r : Option FieldType), Cond.code y cc n r ∈ WT → GoodIn Ts (wM y cc n r)) (lk : LkV own idx y bytes maxL ret n) (hR : rm.cells = mc ∧ rm.slots = ms ∧ rm.frames + 1 ≤ R.frames ∧ 8 + (maxL + 11) + rm.locals ≤ R.locals) : CallW R s args own y.cls idx y bytes maxL ret (wM y bytes maxL ret) rm mc ms n := by
  obtain ⟨h1, h2, h3, h4, h5, h6, h7⟩ := lk
  have g := hG _ _ _ _ h5
  have t : ∀ w ∈ WT, w.before args s = true := fun w h => hT w (g w (List.mem_cons_of_mem _ h)).1
  exact ⟨callB_of n hT g rfl hR.1 hR.2.1 (t _ h4) (t _ h1) ⟨h6.1, h6.2, h7⟩ ⟨hR.2.2.1, hR.2.2.2⟩, t _ h2, t _ h3⟩
theorem cwSW (hT : ∀ w ∈ Ts, w.before args s = true) (hG : ∀ (y : MethodName) (cc : ByteArray) (n : Nat) (r : Option FieldType), Cond.code y cc n r ∈ WT → GoodIn Ts (wM y cc n r)) (lk : LkS own idx y bytes maxL ret n) (hR : rm.cells = mc ∧ rm.slots = ms ∧ rm.frames + 1 ≤ R.frames ∧ 8 + (maxL + 11) + rm.locals ≤ R.locals) : CallB R s args own idx y bytes maxL ret (wM y bytes maxL ret) rm mc ms n ∧ (Cond.static y).before args s = true := by
  obtain ⟨h1, h2, h4, h5, h6, h7⟩ := lk
  have g := hG _ _ _ _ h5
  have t : ∀ w ∈ WT, w.before args s = true := fun w h => hT w (g w (List.mem_cons_of_mem _ h)).1
  exact ⟨callB_of n hT g rfl hR.1 hR.2.1 (t _ h4) (t _ h1) ⟨h6.1, h6.2, h7⟩ ⟨hR.2.2.1, hR.2.2.2⟩, t _ h2⟩
theorem cwIW (hT : ∀ w ∈ Ts, w.before args s = true) (hG : ∀ (y : MethodName) (cc : ByteArray) (n : Nat) (r : Option FieldType), Cond.code y cc n r ∈ WT → GoodIn Ts (wM y cc n r)) (lk : LkI own idx y bytes maxL n) (hR : rm.cells = mc ∧ rm.slots = ms ∧ rm.frames + 1 ≤ R.frames ∧ 8 + (maxL + 11) + rm.locals ≤ R.locals) : CallB R s args own idx y bytes maxL none (wM y bytes maxL none) rm mc ms n ∧ y.name = "<init>" ∧ (Cond.instanceMethod y).before args s = true := by
  obtain ⟨h1, h2, h4, h5, ⟨h6, h7⟩, h8⟩ := lk
  have g := hG _ _ _ _ h5
  have t : ∀ w ∈ WT, w.before args s = true := fun w h => hT w (g w (List.mem_cons_of_mem _ h)).1
  exact ⟨callB_of n hT g rfl hR.1 hR.2.1 (t _ h4) (t _ h1) ⟨h6.1, h6.2, h7⟩ ⟨hR.2.2.1, hR.2.2.2⟩, h8, t _ h2⟩
end KW
/-- a list of words in which every method's words stand -/
def Tg (Ts : List Cond) : Prop := ∀ (y : MethodName) (cc : ByteArray) (n : Nat) (r : Option FieldType), Cond.code y cc n r ∈ WT → GoodIn Ts (wM y cc n r)
theorem Tg_M {y : MethodName} {cc : ByteArray} {n : Nat} {r : Option FieldType} : Tg (wM y cc n r) := fun _ _ _ _ h => gW h
theorem Tg_L : Tg lw_tbl := fun _ _ _ _ h => gWT h
/-! contracts that only read: the heap stays -/
abbrev rP (D : va_G) (G : ClassId × ClassId × ClassId) (av : List Value) (wc : va_W) (H0 : Heap) : Array Value → State → Prop := va_Pc av (fun U => U.heap = H0 ∧ va_P D cls5 wc H0 ∧ va_K D cls5 (tys3 G) U)
abbrev rQi (v : Int32) (H0 : Heap) : Array Value → State → Outcome → State → Prop := va_Qi (fun (r : Int32) (_ : Unit) => r = v) (fun _ t => t.heap = H0) (fun q => H0.size ≤ q)
abbrev rQl (v : Int64) (H0 : Heap) : Array Value → State → Outcome → State → Prop := va_Ql (fun (r : Int64) (_ : Unit) => r = v) (fun _ t => t.heap = H0) (fun q => H0.size ≤ q)
abbrev rQr (a0 : Nat) (H0 : Heap) : Array Value → State → Outcome → State → Prop := va_Qr (fun (_ : Unit) => True) (fun _ a t => a = a0 ∧ t.heap = H0) (fun q => H0.size ≤ q)
abbrev rF (H0 : Heap) : Nat → Prop := fun q => H0.size ≤ q
/-! contracts that write: the cells of wc become those of w1 u -/
abbrev wP (D : va_G) (G : ClassId × ClassId × ClassId) (av : List Value) (wc : va_W) (H0 : Heap) : Array Value → State → Prop := va_Pc av (fun U => U.heap = H0 ∧ va_P D cls5 wc H0 ∧ va_D (fun _ => True) wc ∧ va_K D cls5 (tys3 G) U)
abbrev wQi {S : Type} (D : va_G) (post : Int32 → S → Prop) (wc : va_W) (w1 : S → va_W) (H0 : Heap) : Array Value → State → Outcome → State → Prop := va_Qi post (fun u t => va_P D cls5 (w1 u) t.heap) (va_A wc H0.size)
abbrev wQl {S : Type} (D : va_G) (post : Int64 → S → Prop) (wc : va_W) (w1 : S → va_W) (H0 : Heap) : Array Value → State → Outcome → State → Prop := va_Ql post (fun u t => va_P D cls5 (w1 u) t.heap) (va_A wc H0.size)
abbrev wQv {S : Type} (D : va_G) (post : S → Prop) (wc : va_W) (w1 : S → va_W) (H0 : Heap) : Array Value → State → Outcome → State → Prop := va_Qv post (fun u t => va_P D cls5 (w1 u) t.heap) (va_A wc H0.size)
theorem rP_blind {D : va_G} {G : ClassId × ClassId × ClassId} {av : List Value} {wc : va_W} {H0 : Heap} : FrameBlind (rP D G av wc H0) := fun a U g mk q => ⟨q.1, q.2.1, q.2.2.1, va_K.moved (u := U) (U := U.calling g mk a) (Vm.Alike.refl U.vm) q.2.2.2⟩
theorem wP_blind {D : va_G} {G : ClassId × ClassId × ClassId} {av : List Value} {wc : va_W} {H0 : Heap} : FrameBlind (wP D G av wc H0) := fun a U g mk q => ⟨q.1, q.2.1, q.2.2.1, q.2.2.2.1, va_K.moved (u := U) (U := U.calling g mk a) (Vm.Alike.refl U.vm) q.2.2.2.2⟩
/-- cells written at their places -/
def va_wr (wx : va_W) : List Nat → va_W → va_W
  | i :: is, q :: qs => va_wr (wx.set i q) is qs
  | _, _ => wx
theorem va_wr_at : ∀ (is : List Nat) (w1 wx : va_W) (k : Nat) (q : Nat × va_E), (va_wr wx is w1)[k]? = some q → is.length = w1.length → (∃ j : Nat, is[j]? = some k ∧ w1[j]? = some q) ∨ (wx[k]? = some q ∧ k ∉ is) := by
  intro is
  induction is with
  | nil => intro w1 wx k q h _; exact Or.inr ⟨by cases w1 <;> exact h, List.not_mem_nil⟩
  | cons i is ih =>
    intro w1 wx k q h hl
    cases w1 with
    | nil => simp at hl
    | cons q0 qs =>
      have hl' : is.length = qs.length := by simpa using hl
      rcases ih qs (wx.set i q0) k q h hl' with ⟨j, h1, h2⟩ | ⟨h1, h2⟩
      · exact Or.inl ⟨j + 1, by simpa using h1, by simpa using h2⟩
      · by_cases hk : i = k
        · subst hk
          by_cases hlt : i < wx.length
          · rw [List.getElem?_set_self hlt] at h1
            exact Or.inl ⟨0, by simp, by simpa using h1⟩
          · rw [List.getElem?_eq_none (by simp; omega)] at h1
            cases h1
        · rw [List.getElem?_set_ne hk] at h1
          exact Or.inr ⟨h1, fun hm => by
            rcases List.mem_cons.mp hm with e | e
            · exact hk e.symm
            · exact h2 e⟩
theorem va_map_at {w1 w2 : va_W} (h : w1.map (·.1) = w2.map (·.1)) {j : Nat} {q : Nat × va_E} (hj : w1[j]? = some q) : ∃ q', w2[j]? = some q' ∧ q'.1 = q.1 := by
  have h2 : (w1.map (·.1))[j]? = some q.1 := by rw [List.getElem?_map, hj]; rfl
  rw [h, List.getElem?_map] at h2
  cases hw : w2[j]? with
  | none => rw [hw] at h2; cases h2
  | some q' => rw [hw] at h2; exact ⟨q', rfl, by simpa using h2⟩
theorem va_D.same {A : Nat → Prop} {w1 w2 : va_W} (hD : va_D A w1) (h : w2.map (·.1) = w1.map (·.1)) : va_D A w2 := by
  refine ⟨fun i j p q hi hj e => ?_, fun k q hk => ?_⟩
  · obtain ⟨p', h1, e1⟩ := va_map_at h hi
    obtain ⟨q', h2, e2⟩ := va_map_at h hj
    exact hD.1 i j p' q' h1 h2 (by rw [e1, e2]; exact e)
  · obtain ⟨q', h1, e1⟩ := va_map_at h hk
    rw [← e1]; exact hD.2 k q' h1
theorem va_join_wr {A0 : Nat → Prop} {D : va_G} {cl : List vw_C} {wx wc w1 : va_W} {H H1 : Heap} (hP : va_P D cl wx H) (hD : va_D A0 wx) (is : List Nat) (hC : is.map (fun i => wx[i]?) = wc.map some) (hm : w1.map (·.1) = wc.map (·.1)) (hk : ∀ q : Nat, q < H.size → ¬ va_A wc H.size q → H1[q]? = H[q]?) (hP1 : va_P D cl w1 H1) : va_P D cl (va_wr wx is w1) H1 ∧ va_D A0 (va_wr wx is w1) := by
  have hlen : is.length = w1.length := by
    have h1 : is.length = wc.length := by simpa using congrArg List.length hC
    have h2 : w1.length = wc.length := by simpa using congrArg List.length hm
    omega
  have hat : ∀ (j k : Nat), is[j]? = some k → ∃ q', wc[j]? = some q' ∧ wx[k]? = some q' := by
    intro j k hj
    have h1 : (is.map (fun i => wx[i]?))[j]? = some (wx[k]?) := by rw [List.getElem?_map, hj]; rfl
    rw [hC, List.getElem?_map] at h1
    cases hw : wc[j]? with
    | none => rw [hw] at h1; cases h1
    | some q' =>
      rw [hw] at h1
      exact ⟨q', rfl, by simpa using h1.symm⟩
  refine ⟨fun k q hkq => ?_, ?_⟩
  · rcases va_wr_at is w1 wx k q hkq hlen with ⟨j, h1, h2⟩ | ⟨h1, h2⟩
    · exact hP1 j q h2
    · refine (hP k q h1).kept (hk q.1 (hP k q h1).lt ?_)
      rintro (⟨j, e, hj⟩ | hz)
      · obtain ⟨i, hi⟩ : ∃ i, is[j]? = some i := by
          have hjl : j < is.length := by
            have h3 : is.length = wc.length := by simpa using congrArg List.length hC
            rw [h3]; exact (List.getElem?_eq_some_iff.mp hj).1
          exact ⟨is[j], List.getElem?_eq_getElem hjl⟩
        obtain ⟨q', hq1, hq2⟩ := hat j i hi
        rw [hj] at hq1; cases hq1
        have : i = k := hD.1 i k _ _ hq2 h1 rfl
        subst this
        exact h2 (List.mem_of_getElem? hi)
      · exact absurd (hP k q h1).lt (Nat.not_lt.mpr hz)
  · refine ⟨fun i j p q hi hj e => ?_, fun k q hkq => ?_⟩
    · have g : ∀ (k : Nat) (q : Nat × va_E), (va_wr wx is w1)[k]? = some q → ∃ q', wx[k]? = some q' ∧ q'.1 = q.1 := by
        intro k q h
        rcases va_wr_at is w1 wx k q h hlen with ⟨j, h1, h2⟩ | ⟨h1, h2⟩
        · obtain ⟨q', h3, h4⟩ := va_map_at hm h2
          obtain ⟨q2, h5, h6⟩ := hat j k h1
          rw [h3] at h5; cases h5
          exact ⟨q', h6, h4⟩
        · exact ⟨q, h1, rfl⟩
      obtain ⟨p', h1, e1⟩ := g i p hi
      obtain ⟨q', h2, e2⟩ := g j q hj
      exact hD.1 i j p' q' h1 h2 (by rw [e1, e2]; exact e)
    · rcases va_wr_at is w1 wx k q hkq hlen with ⟨j, h1, h2⟩ | ⟨h1, h2⟩
      · obtain ⟨q', h3, h4⟩ := va_map_at hm h2
        obtain ⟨q2, h5, h6⟩ := hat j k h1
        rw [h3] at h5; cases h5
        rw [← h4]; exact hD.2 k q' h6
      · exact hD.2 k q h1
section KC
variable {p : Program} {l : Launch} {e : Env} {R : Room} {s : State} {m : MethodId} {args : Array Value} {below : List Frame} {meth : Method} {c : Code} {H : Heap} {locs : List Loc} {cells slots : Nat} {Q : State → Prop}
variable {Ts : List Cond} {cc bytes : ByteArray} {nL maxL idx n : Nat} {own : String} {y : MethodName} {ret : Option FieldType} {rm : Room} {D : va_G} {G : ClassId × ClassId × ClassId} {wx wc : va_W} {b : Addr} {As rest : List Value} {pc : Nat} {ls : Array Slot} {st0 : List Value} {A0 : Nat → Prop} {H0 : Heap} {lv : List (Nat × Value)}
theorem roV_run {Qc : Array Value → State → Outcome → State → Prop} {free : Addr → Prop} (hx : p.tables.exec = Jvm.exec) (hb : c.code = cc) (hml : c.maxLocals = nL) (hown : s.vm.findClass own = some m.cls) (hts : ∀ w ∈ Ts, w.before args s = true) (hG : Tg Ts)
    (hM : Met l y (wM y bytes maxL ret) rm (rP D G (.ref b :: As) wc H) Qc 0 0 free) (lk : LkV own idx y bytes maxL ret n) (hR : rm.cells = 0 ∧ rm.slots = 0 ∧ rm.frames + 1 ≤ R.frames ∧ 8 + (maxL + 11) + rm.locals ≤ R.locals)
    (hP : va_P D cls5 wx H) (hK : va_K D cls5 (tys3 G) s) (is : List Nat) (hs : is.filterMap (fun i => wx[i]?) = wc) (k ci : Nat) {q : vw_C} {fs : List Value} (he : wx[k]? = some (b, .inr (ci, fs))) (hc : cls5[ci]? = some q) (hq : q.1 = y.cls)
    (hn : As.length = n) (hl : lv_has ls nL lv) (hst : st0 = As.reverse ++ .ref b :: rest) (hrest : (rest.map fun v => v.category).sum ≤ 8) (hdg : decode cc pc = .ok (.invokevirtual idx, 3)) (hcs : cells ≤ R.cells ∧ slots ≤ R.slots) : va_Run p l e R s m args below meth c H locs cells slots 0 0 (F0 m pc ls st0) rest (Qc (Value.ref b :: As).toArray) free :=
  va_runV ⟨hx, hb, hml, hown, hts⟩ hM (cwVW hts hG lk hR) ⟨rP_blind, by rw [← hq]; exact va_recv hK hP hc he, fun U hU hW => ⟨rfl, hU, hP.sub is hs, va_K.moved hW.alike hK⟩⟩ rfl hn hl.1 hst (lv_room hrest) hdg hcs
theorem roS_run {Qc : Array Value → State → Outcome → State → Prop} {free : Addr → Prop} (hx : p.tables.exec = Jvm.exec) (hb : c.code = cc) (hml : c.maxLocals = nL) (hown : s.vm.findClass own = some m.cls) (hts : ∀ w ∈ Ts, w.before args s = true) (hG : Tg Ts)
    (hM : Met l y (wM y bytes maxL ret) rm (rP D G As wc H) Qc 0 0 free) (lk : LkS own idx y bytes maxL ret n) (hR : rm.cells = 0 ∧ rm.slots = 0 ∧ rm.frames + 1 ≤ R.frames ∧ 8 + (maxL + 11) + rm.locals ≤ R.locals)
    (hP : va_P D cls5 wx H) (hK : va_K D cls5 (tys3 G) s) (is : List Nat) (hs : is.filterMap (fun i => wx[i]?) = wc)
    (hn : As.length = n) (hl : lv_has ls nL lv) (hst : st0 = As.reverse ++ rest) (hrest : (rest.map fun v => v.category).sum ≤ 8) (hdg : decode cc pc = .ok (.invokestatic idx, 3)) (hcs : cells ≤ R.cells ∧ slots ≤ R.slots) : va_Run p l e R s m args below meth c H locs cells slots 0 0 (F0 m pc ls st0) rest (Qc As.toArray) free :=
  va_runS ⟨hx, hb, hml, hown, hts⟩ hM (cwSW hts hG lk hR) ⟨rP_blind, fun U hU hW => ⟨rfl, hU, hP.sub is hs, va_K.moved hW.alike hK⟩⟩ rfl hn hl.1 hst (lv_room hrest) hdg hcs
theorem wrV_run {Qc : Array Value → State → Outcome → State → Prop} {free : Addr → Prop} (hx : p.tables.exec = Jvm.exec) (hb : c.code = cc) (hml : c.maxLocals = nL) (hown : s.vm.findClass own = some m.cls) (hts : ∀ w ∈ Ts, w.before args s = true) (hG : Tg Ts)
    (hM : Met l y (wM y bytes maxL ret) rm (wP D G (.ref b :: As) wc H) Qc 0 0 free) (lk : LkV own idx y bytes maxL ret n) (hR : rm.cells = 0 ∧ rm.slots = 0 ∧ rm.frames + 1 ≤ R.frames ∧ 8 + (maxL + 11) + rm.locals ≤ R.locals)
    (hP : va_P D cls5 wx H) (hD : va_D A0 wx) (hK : va_K D cls5 (tys3 G) s) (is : List Nat) (hnd : va_nd is = true) (hs : is.map (fun i => wx[i]?) = wc.map some) (k ci : Nat) {q : vw_C} {fs : List Value} (he : wx[k]? = some (b, .inr (ci, fs))) (hc : cls5[ci]? = some q) (hq : q.1 = y.cls)
    (hn : As.length = n) (hl : lv_has ls nL lv) (hst : st0 = As.reverse ++ .ref b :: rest) (hrest : (rest.map fun v => v.category).sum ≤ 8) (hdg : decode cc pc = .ok (.invokevirtual idx, 3)) (hcs : cells ≤ R.cells ∧ slots ≤ R.slots) : va_Run p l e R s m args below meth c H locs cells slots 0 0 (F0 m pc ls st0) rest (Qc (Value.ref b :: As).toArray) free :=
  va_runV ⟨hx, hb, hml, hown, hts⟩ hM (cwVW hts hG lk hR) ⟨wP_blind, by rw [← hq]; exact va_recv hK hP hc he, fun U hU hW => ⟨rfl, hU, fun k' q' hk' => by
    have h1 : (wc.map some)[k']? = some (some q') := by rw [List.getElem?_map, hk']; rfl
    rw [← hs, List.getElem?_map] at h1
    cases hi : is[k']? with
    | none => rw [hi] at h1; cases h1
    | some i => rw [hi] at h1; exact hP i q' (by simpa using h1), (hD.sub is hnd hs).weaken (fun _ _ _ _ => trivial), va_K.moved hW.alike hK⟩⟩ rfl hn hl.1 hst (lv_room hrest) hdg hcs
theorem ro_i {v : Int32} {a : Array Value} (hr : va_Run p l e R s m args below meth c H locs cells slots 0 0 (F0 m pc ls st0) rest (rQi v H a) (rF H)) (hS : va_S A0 H0 H locs) (hA : ∀ q, H0.size ≤ q → A0 q)
    (kk : ∀ locs1 : List Loc, va_S A0 H0 H locs1 → W p l e R s m args below meth c H locs1 cells slots Q (F0 m (pc + 3) ls (.int v :: rest))) : W p l e R s m args below meth c H locs cells slots Q (F0 m pc ls st0) :=
  va_calli hr hS (fun q h1 h2 => absurd h1 (Nat.not_lt.mpr h2)) (fun q h => hA q (Nat.le_trans hS.1 h)) (fun r u t H1 locs1 ht hvm hp hb _ _ hS1 => by
    have e : H1 = H := ht.symm.trans hb
    subst e; subst hp
    exact kk locs1 hS1)
theorem ro_l {v : Int64} {a : Array Value} (hr : va_Run p l e R s m args below meth c H locs cells slots 0 0 (F0 m pc ls st0) rest (rQl v H a) (rF H)) (hS : va_S A0 H0 H locs) (hA : ∀ q, H0.size ≤ q → A0 q)
    (kk : ∀ locs1 : List Loc, va_S A0 H0 H locs1 → W p l e R s m args below meth c H locs1 cells slots Q (F0 m (pc + 3) ls (.long v :: rest))) : W p l e R s m args below meth c H locs cells slots Q (F0 m pc ls st0) :=
  va_calll hr hS (fun q h1 h2 => absurd h1 (Nat.not_lt.mpr h2)) (fun q h => hA q (Nat.le_trans hS.1 h)) (fun r u t H1 locs1 ht hvm hp hb _ _ hS1 => by
    have e : H1 = H := ht.symm.trans hb
    subst e; subst hp
    exact kk locs1 hS1)
theorem ro_r {a0 : Nat} {a : Array Value} (hr : va_Run p l e R s m args below meth c H locs cells slots 0 0 (F0 m pc ls st0) rest (rQr a0 H a) (rF H)) (hS : va_S A0 H0 H locs) (hA : ∀ q, H0.size ≤ q → A0 q)
    (kk : ∀ locs1 : List Loc, va_S A0 H0 H locs1 → W p l e R s m args below meth c H locs1 cells slots Q (F0 m (pc + 3) ls (.ref a0 :: rest))) : W p l e R s m args below meth c H locs cells slots Q (F0 m pc ls st0) :=
  va_callr hr hS (fun q h1 h2 => absurd h1 (Nat.not_lt.mpr h2)) (fun q h => hA q (Nat.le_trans hS.1 h)) (fun u ra t H1 locs1 ht hvm hp hb _ _ hS1 => by
    obtain ⟨hb1, hb2⟩ := hb
    have e : H1 = H := ht.symm.trans hb2
    subst e; subst hb1
    exact kk locs1 hS1)
theorem wr_i {S : Type} {post : Int32 → S → Prop} {w1 : S → va_W} {a : Array Value} (hr : va_Run p l e R s m args below meth c H locs cells slots 0 0 (F0 m pc ls st0) rest (wQi D post wc w1 H a) (va_A wc H.size)) (hP : va_P D cls5 wx H) (hD : va_D A0 wx) (is : List Nat) (hs : is.map (fun i => wx[i]?) = wc.map some) (hw : ∀ u, (w1 u).map (·.1) = wc.map (·.1)) (hS : va_S A0 H0 H locs) (hA : ∀ q, H0.size ≤ q → A0 q)
    (kk : ∀ (r : Int32) (u : S) (H1 : Heap) (locs1 : List Loc), post r u → va_P D cls5 (va_wr wx is (w1 u)) H1 → va_D A0 (va_wr wx is (w1 u)) → va_S A0 H0 H1 locs1 → W p l e R s m args below meth c H1 locs1 cells slots Q (F0 m (pc + 3) ls (.int r :: rest))) : W p l e R s m args below meth c H locs cells slots Q (F0 m pc ls st0) :=
  have hF := va_free (wc := wc) hD hS hA is hs
  va_calli hr hS (fun q _ h => hF q h) hF (fun r u t H1 locs1 ht hvm hp hb _ hk hS1 => by
    rw [ht] at hb
    obtain ⟨h1, h2⟩ := va_join_wr hP hD is hs (hw u) hk hb
    exact kk r u H1 locs1 hp h1 h2 hS1)
theorem wr_v {S : Type} {post : S → Prop} {w1 : S → va_W} {a : Array Value} (hr : va_Run p l e R s m args below meth c H locs cells slots 0 0 (F0 m pc ls st0) rest (wQv D post wc w1 H a) (va_A wc H.size)) (hP : va_P D cls5 wx H) (hD : va_D A0 wx) (is : List Nat) (hs : is.map (fun i => wx[i]?) = wc.map some) (hw : ∀ u, (w1 u).map (·.1) = wc.map (·.1)) (hS : va_S A0 H0 H locs) (hA : ∀ q, H0.size ≤ q → A0 q)
    (kk : ∀ (u : S) (H1 : Heap) (locs1 : List Loc), post u → va_P D cls5 (va_wr wx is (w1 u)) H1 → va_D A0 (va_wr wx is (w1 u)) → va_S A0 H0 H1 locs1 → W p l e R s m args below meth c H1 locs1 cells slots Q (F0 m (pc + 3) ls rest)) : W p l e R s m args below meth c H locs cells slots Q (F0 m pc ls st0) :=
  have hF := va_free (wc := wc) hD hS hA is hs
  va_callv hr hS (fun q _ h => hF q h) hF (fun u t H1 locs1 ht hvm hp hb _ hk hS1 => by
    rw [ht] at hb
    obtain ⟨h1, h2⟩ := va_join_wr hP hD is hs (hw u) hk hb
    exact kk u H1 locs1 hp h1 h2 hS1)
end KC
section KB
variable {l : Launch} {cc : ByteArray} {maxL d : Nat} {y : MethodName} {ret : Option FieldType} {D : va_G} {G : ClassId × ClassId × ClassId} {wc : va_W} {av : List Value} {H0 : Heap}
/-- a contract that only reads, from its body -/
theorem ro_start {Qc : Heap → Array Value → State → Outcome → State → Prop} (hy : plainName y.cls = true) (hle : (lg_sl av).length ≤ maxL)
    (body : ∀ p e s m args below meth c, p.tables.exec = Jvm.exec → c.code = cc → meth.sig.returnType = ret → (∀ w ∈ wM y cc maxL ret, w.before args s = true) → s.vm.findClass y.cls = some m.cls → meth.locks = false → c.maxLocals = maxL → va_P D cls5 wc s.heap → va_K D cls5 (tys3 G) s → (∀ q, s.heap.size ≤ q → rF s.heap q) → s.heap = H0 → ∀ ls, lv_has ls maxL (lv_args 0 av) → ∀ locs, va_S (rF s.heap) s.heap s.heap locs →
      W p l e (rmD d) s m args below meth c s.heap locs 0 0 (MQ below (Qc s.heap) args s 0 0 (rF s.heap)) (F0 m 0 ls [])) : Met l y (wM y cc maxL ret) (rmD d) (rP D G av wc H0) (Qc H0) 0 0 (rF H0) := by
  refine Met.ofW (cc := cc) (maxL := maxL) (ret := ret) hy rfl ?_
  intro p e s m args below meth c s₁ B hml hv
  obtain ⟨rfl, hsz, hP, hK⟩ := hv
  subst hsz
  have hl := lv_entry av (n := maxL) hle
  rw [lg_entry_eq]
  exact body p e s m _ below meth c B.exec B.bytes B.returns (atoms_spec (ws := wM y cc maxL ret) B.pre) (findClass_of_methodNamed B.named) B.notSynchronized hml hP hK (fun q h => h) rfl _ hl [] va_S.rf
/-- a contract that writes, from its body -/
theorem wr_start {Qc : Heap → Array Value → State → Outcome → State → Prop} (hy : plainName y.cls = true) (hle : (lg_sl av).length ≤ maxL)
    (body : ∀ p e s m args below meth c, p.tables.exec = Jvm.exec → c.code = cc → meth.sig.returnType = ret → (∀ w ∈ wM y cc maxL ret, w.before args s = true) → s.vm.findClass y.cls = some m.cls → meth.locks = false → c.maxLocals = maxL → va_K D cls5 (tys3 G) s → ∀ A : Nat → Prop, A = va_A wc s.heap.size → (∀ q, s.heap.size ≤ q → A q) → s.heap = H0 → ∀ ls, lv_has ls maxL (lv_args 0 av) → ∀ H locs, va_P D cls5 wc H → va_D A wc → va_S A s.heap H locs →
      W p l e (rmD d) s m args below meth c H locs 0 0 (MQ below (Qc s.heap) args s 0 0 A) (F0 m 0 ls [])) : Met l y (wM y cc maxL ret) (rmD d) (wP D G av wc H0) (Qc H0) 0 0 (va_A wc H0.size) := by
  refine Met.ofW (cc := cc) (maxL := maxL) (ret := ret) hy rfl ?_
  intro p e s m args below meth c s₁ B hml hv
  obtain ⟨rfl, hsz, hP, hD0, hK⟩ := hv
  subst hsz
  have hl := lv_entry av (n := maxL) hle
  rw [lg_entry_eq]
  exact body p e s m _ below meth c B.exec B.bytes B.returns (atoms_spec (ws := wM y cc maxL ret) B.pre) (findClass_of_methodNamed B.named) B.notSynchronized hml hK _ rfl (fun q h => Or.inr h) rfl _ hl s.heap [] hP hD0.self va_S.rf
end KB
section KE
variable {p : Program} {l : Launch} {e : Env} {R : Room} {s : State} {m : MethodId} {args : Array Value} {below : List Frame} {meth : Method} {c : Code} {H : Heap} {locs : List Loc} {cc : ByteArray} {pc : Nat} {ls : Array Slot} {rest : List Value} {D : va_G} {wc : va_W} {A : Nat → Prop}
theorem ro_iret {v v' : Int32} (hx : p.tables.exec = Jvm.exec) (hb : c.code = cc) (hr : meth.sig.returnType = some .int) (hlocks : meth.locks = false) (hS : va_S (rF s.heap) s.heap s.heap locs) (hdg : decode cc pc = .ok (.ireturn, 1)) (hv : v = v') : W p l e R s m args below meth c s.heap locs 0 0 (MQ below (rQi v' s.heap) args s 0 0 (rF s.heap)) (F0 m pc ls [.int v]) :=
  W.iret hx hb hr (fun t ht _ => ⟨⟨v, (), rfl, hv, ht⟩, hS.F ht⟩) hS.2.2 hdg hlocks
theorem ro_zret {v v' : Int32} (hx : p.tables.exec = Jvm.exec) (hb : c.code = cc) (hr : meth.sig.returnType = some .boolean) (hlocks : meth.locks = false) (hS : va_S (rF s.heap) s.heap s.heap locs) (hdg : decode cc pc = .ok (.ireturn, 1)) (hn : narrow .boolean (.int v) = .int v) (hv : v = v') : W p l e R s m args below meth c s.heap locs 0 0 (MQ below (rQi v' s.heap) args s 0 0 (rF s.heap)) (F0 m pc ls [.int v]) :=
  W.zret hx hb hr hn (fun t ht _ => ⟨⟨v, (), rfl, hv, ht⟩, hS.F ht⟩) hS.2.2 hdg hlocks
theorem ro_lret {v v' : Int64} (hx : p.tables.exec = Jvm.exec) (hb : c.code = cc) (hr : meth.sig.returnType = some .long) (hlocks : meth.locks = false) (hS : va_S (rF s.heap) s.heap s.heap locs) (hdg : decode cc pc = .ok (.lreturn, 1)) (hv : v = v') : W p l e R s m args below meth c s.heap locs 0 0 (MQ below (rQl v' s.heap) args s 0 0 (rF s.heap)) (F0 m pc ls [.long v]) :=
  W.lret hx hb hr (fun t ht _ => ⟨⟨v, (), rfl, hv, ht⟩, hS.F ht⟩) hS.2.2 hdg hlocks
theorem ro_aret {a0 : Nat} {C : String} (hx : p.tables.exec = Jvm.exec) (hb : c.code = cc) (hr : meth.sig.returnType = some (.object C)) (hlocks : meth.locks = false) (hS : va_S (rF s.heap) s.heap s.heap locs) (hdg : decode cc pc = .ok (.areturn, 1)) : W p l e R s m args below meth c s.heap locs 0 0 (MQ below (rQr a0 s.heap) args s 0 0 (rF s.heap)) (F0 m pc ls [.ref a0]) :=
  W.aret hx hb hr (Or.inl ⟨_, rfl⟩) (Or.inr ⟨_, rfl⟩) (fun t ht _ => ⟨⟨(), a0, rfl, trivial, rfl, ht⟩, hS.F ht⟩) hS.2.2 hdg hlocks
theorem wr_iret {S : Type} {post : Int32 → S → Prop} {w1 : S → va_W} {v : Int32} (u : S) (hx : p.tables.exec = Jvm.exec) (hb : c.code = cc) (hr : meth.sig.returnType = some .int) (hlocks : meth.locks = false) (hAe : A = va_A wc s.heap.size) (hS : va_S A s.heap H locs) (hdg : decode cc pc = .ok (.ireturn, 1)) (hP : va_P D cls5 (w1 u) H) (hv : post v u) : W p l e R s m args below meth c H locs 0 0 (MQ below (wQi D post wc w1 s.heap) args s 0 0 A) (F0 m pc ls [.int v]) := by
  subst hAe
  exact W.iret hx hb hr (fun t ht _ => ⟨⟨v, u, rfl, hv, by show va_P D cls5 (w1 u) t.heap; rw [ht]; exact hP⟩, hS.F ht⟩) hS.2.2 hdg hlocks
theorem wr_zret {S : Type} {post : Int32 → S → Prop} {w1 : S → va_W} {v : Int32} (u : S) (hx : p.tables.exec = Jvm.exec) (hb : c.code = cc) (hr : meth.sig.returnType = some .boolean) (hlocks : meth.locks = false) (hAe : A = va_A wc s.heap.size) (hS : va_S A s.heap H locs) (hdg : decode cc pc = .ok (.ireturn, 1)) (hn : narrow .boolean (.int v) = .int v) (hP : va_P D cls5 (w1 u) H) (hv : post v u) : W p l e R s m args below meth c H locs 0 0 (MQ below (wQi D post wc w1 s.heap) args s 0 0 A) (F0 m pc ls [.int v]) := by
  subst hAe
  exact W.zret hx hb hr hn (fun t ht _ => ⟨⟨v, u, rfl, hv, by show va_P D cls5 (w1 u) t.heap; rw [ht]; exact hP⟩, hS.F ht⟩) hS.2.2 hdg hlocks
theorem wr_lret {S : Type} {post : Int64 → S → Prop} {w1 : S → va_W} {v : Int64} (u : S) (hx : p.tables.exec = Jvm.exec) (hb : c.code = cc) (hr : meth.sig.returnType = some .long) (hlocks : meth.locks = false) (hAe : A = va_A wc s.heap.size) (hS : va_S A s.heap H locs) (hdg : decode cc pc = .ok (.lreturn, 1)) (hP : va_P D cls5 (w1 u) H) (hv : post v u) : W p l e R s m args below meth c H locs 0 0 (MQ below (wQl D post wc w1 s.heap) args s 0 0 A) (F0 m pc ls [.long v]) := by
  subst hAe
  exact W.lret hx hb hr (fun t ht _ => ⟨⟨v, u, rfl, hv, by show va_P D cls5 (w1 u) t.heap; rw [ht]; exact hP⟩, hS.F ht⟩) hS.2.2 hdg hlocks
theorem wr_vret {S : Type} {post : S → Prop} {w1 : S → va_W} (u : S) (hx : p.tables.exec = Jvm.exec) (hb : c.code = cc) (hr : meth.sig.returnType = none) (hlocks : meth.locks = false) (hAe : A = va_A wc s.heap.size) (hS : va_S A s.heap H locs) (hdg : decode cc pc = .ok (.return_, 1)) (hP : va_P D cls5 (w1 u) H) (hv : post u) : W p l e R s m args below meth c H locs 0 0 (MQ below (wQv D post wc w1 s.heap) args s 0 0 A) (F0 m pc ls []) := by
  subst hAe
  exact W.vret hx hb hr (fun t ht _ => ⟨⟨u, rfl, hv, by show va_P D cls5 (w1 u) t.heap; rw [ht]; exact hP⟩, hS.F ht⟩) hS.2.2 hdg hlocks
end KE
end
section
def bI (b : Bool) : Int32 := if b then 1 else 0
theorem bI_t : bI true = 1 := rfl
theorem bI_f : bI false = 0 := rfl
theorem narrow_bI (b : Bool) : narrow .boolean (.int (bI b)) = .int (bI b) := by cases b <;> rfl
theorem fits_bI (b : Bool) : fits .boolean (.int (bI b)) = true := by cases b <;> rfl
theorem bI_0 {b : Bool} : bI b = 0 ↔ b = false := by cases b <;> decide
theorem bI_n0 {b : Bool} : ¬ bI b = 0 ↔ b = true := by cases b <;> decide
abbrev nF (f : Nat → Nat) : Nat → Int32 := fun i => nI (f i)
theorem upd_nF (f : Nat → Nat) (j x : Nat) : upd (nF f) j (nI x) = nF (va_up f j x) := by
  funext q
  by_cases h : q = j
  · subst h; simp [upd, va_up, nF]
  · simp [upd, va_up, nF, h]
def inR (x lo hi : Int32) : Bool := decide (lo ≤ x ∧ x ≤ hi)
theorem inR_N {x : Int32} {lo hi : Nat} (hlo : lo ≤ hi) (hh : hi < 2 ^ 31) (h : inR x (nI lo) (nI hi) = true) : ∃ j : Nat, lo ≤ j ∧ j ≤ hi ∧ x = nI j := by
  have h1 := of_decide_eq_true h
  have e0 : ¬ x < 0 := by
    intro hx
    have h2 : nI lo < 0 := by
      rw [Int32.lt_iff_toInt_lt] at hx ⊢
      have := Int32.le_iff_toInt_le.mp h1.1
      omega
    exact nI_pos (by omega) h2
  obtain ⟨j, hj, rfl⟩ := nI_of e0
  exact ⟨j, (nI_leI (by omega) hj).mp h1.1, (nI_leI hj hh).mp h1.2, rfl⟩
def hasB (i : Int32) (n : Nat) : Bool := decide (0 ≤ i ∧ i < nI n)
theorem hasB_N {i : Int32} {n : Nat} (hn : n < 2 ^ 31) (h : hasB i n = true) : ∃ j : Nat, j < n ∧ i = nI j := by
  have h1 := of_decide_eq_true h
  obtain ⟨j, hj, rfl⟩ := nI_of (x := i) (by intro q; rw [Int32.lt_iff_toInt_lt] at q; have := Int32.le_iff_toInt_le.mp h1.1; omega)
  exact ⟨j, (nI_ltI hj hn).mp h1.2, rfl⟩
theorem hasB_nI {j n : Nat} (hj : j < 2 ^ 31) (hn : n < 2 ^ 31) : hasB (nI j) n = decide (j < n) := by
  unfold hasB
  rw [decide_eq_decide, nI_ltI hj hn]
  exact ⟨fun h => h.2, fun h => ⟨nI_pos' hj, h⟩⟩
theorem inR_has {i : Int32} {n : Nat} (hn : n < 2 ^ 31) : inR i (nI 0) (nI n - nI 1) = hasB i n := by
  unfold inR hasB
  rw [decide_eq_decide]
  have e1 : (nI n - nI 1).toInt = (n : Int) - 1 := by
    by_cases h : n < 2 ^ 30
    · exact pk_sub_toInt h (by decide)
    · rw [pk_sub (by omega), nI_toInt (by omega)]; omega
  simp only [Int32.le_iff_toInt_le, Int32.lt_iff_toInt_lt, e1, nI_toInt hn]
  constructor
  · intro h; exact ⟨h.1, by omega⟩
  · intro h; exact ⟨h.1, by omega⟩
theorem bI_of_t {b : Bool} (h : b = true) : nI 1 = bI b := by rw [h]; rfl
theorem bI_of_f {b : Bool} (h : b = false) : nI 0 = bI b := by rw [h]; rfl
theorem inR_nI {lo hi j : Nat} (hl : lo < 2 ^ 31) (hh : hi < 2 ^ 31) (hj : j < 2 ^ 31) : inR (nI j) (nI lo) (nI hi) = decide (lo ≤ j ∧ j ≤ hi) := by
  unfold inR
  rw [decide_eq_decide, nI_leI hl hj, nI_leI hj hh]
theorem nI_inc (a k : Nat) : nI a + Int32.ofInt (k : Int) = nI (a + k) := by
  rw [← nI_add]; rfl
theorem nI_dec {a k : Nat} (h : k ≤ a) : nI a + Int32.ofInt (-(k : Int)) = nI (a - k) := by
  rw [← pk_sub h]
  show nI a + Int32.ofInt (-(k : Int)) = nI a - nI k
  rw [Int32.ofInt_neg, Int32.sub_eq_add_neg]; rfl
theorem max_nI {a b : Nat} (ha : a < 2 ^ 31) (hb : b < 2 ^ 31) : (if nI a < nI b then nI b else nI a) = nI (Nat.max a b) := by
  by_cases h : a < b
  · rw [if_pos ((nI_ltI ha hb).mpr h), show Nat.max a b = b from Nat.max_eq_right (Nat.le_of_lt h)]
  · rw [if_neg (fun q => h ((nI_ltI ha hb).mp q)), show Nat.max a b = a from Nat.max_eq_left (by omega)]
theorem min_nI {a b : Nat} (ha : a < 2 ^ 31) (hb : b < 2 ^ 31) : (if nI b < nI a then nI b else nI a) = nI (Nat.min a b) := by
  by_cases h : b < a
  · rw [if_pos ((nI_ltI hb ha).mpr h), show Nat.min a b = b from Nat.min_eq_right (Nat.le_of_lt h)]
  · rw [if_neg (fun q => h ((nI_ltI hb ha).mp q)), show Nat.min a b = a from Nat.min_eq_left (by omega)]
section KN
variable {p : Program} {l : Launch} {e : Env} {R : Room} {s : State} {m : MethodId} {args : Array Value} {below : List Frame} {meth : Method} {c : Code} {H : Heap} {locs : List Loc} {cells slots : Nat} {Q : State → Prop}
variable {cc : ByteArray} {pc tgt : Nat} {off : Int} {ls : Array Slot} {rest : List Value} {x y : Nat}
theorem n_tope {x x' : Int32} (e1 : x = x') (k : W p l e R s m args below meth c H locs cells slots Q (F0 m pc ls (.int x' :: rest))) : W p l e R s m args below meth c H locs cells slots Q (F0 m pc ls (.int x :: rest)) := by
  rw [e1]; exact k
theorem n_topl {x x' : Int64} (e1 : x = x') (k : W p l e R s m args below meth c H locs cells slots Q (F0 m pc ls (.long x' :: rest))) : W p l e R s m args below meth c H locs cells slots Q (F0 m pc ls (.long x :: rest)) := by
  rw [e1]; exact k
theorem n_iadd (hx : p.tables.exec = Jvm.exec) (hb : c.code = cc) (hdg : decode cc pc = .ok (.iadd, 1)) (k : W p l e R s m args below meth c H locs cells slots Q (F0 m (pc + 1) ls (.int (nI (x + y)) :: rest))) : W p l e R s m args below meth c H locs cells slots Q (F0 m pc ls (.int (nI y) :: .int (nI x) :: rest)) :=
  lv_iadd hx hb hdg (by rw [nI_add]; exact k)
theorem n_imul (hx : p.tables.exec = Jvm.exec) (hb : c.code = cc) (hdg : decode cc pc = .ok (.imul, 1)) (k : W p l e R s m args below meth c H locs cells slots Q (F0 m (pc + 1) ls (.int (nI (x * y)) :: rest))) : W p l e R s m args below meth c H locs cells slots Q (F0 m pc ls (.int (nI y) :: .int (nI x) :: rest)) :=
  lv_imul hx hb hdg (by rw [pk_mul]; exact k)
theorem n_isub (hx : p.tables.exec = Jvm.exec) (hb : c.code = cc) (hdg : decode cc pc = .ok (.isub, 1)) (h : y ≤ x) (k : W p l e R s m args below meth c H locs cells slots Q (F0 m (pc + 1) ls (.int (nI (x - y)) :: rest))) : W p l e R s m args below meth c H locs cells slots Q (F0 m pc ls (.int (nI y) :: .int (nI x) :: rest)) :=
  lv_isub hx hb hdg (by rw [pk_sub h]; exact k)
theorem nI_n0' {y : Nat} (h0 : 0 < y) (h : y < 2 ^ 31) : ¬ nI y = 0 := nI_ne0 h0 h
theorem n_idiv (hx : p.tables.exec = Jvm.exec) (hb : c.code = cc) (hdg : decode cc pc = .ok (.idiv, 1)) (hx1 : x < 2 ^ 31) (h0 : 0 < y) (hy : y < 2 ^ 31) (k : W p l e R s m args below meth c H locs cells slots Q (F0 m (pc + 1) ls (.int (nI (x / y)) :: rest))) : W p l e R s m args below meth c H locs cells slots Q (F0 m pc ls (.int (nI y) :: .int (nI x) :: rest)) :=
  lv_idiv hx hb hdg (nI_ne0 h0 hy) (by rw [pk_div hx1 h0 hy]; exact k)
theorem n_irem (hx : p.tables.exec = Jvm.exec) (hb : c.code = cc) (hdg : decode cc pc = .ok (.irem, 1)) (hx1 : x < 2 ^ 31) (h0 : 0 < y) (hy : y < 2 ^ 31) (k : W p l e R s m args below meth c H locs cells slots Q (F0 m (pc + 1) ls (.int (nI (x % y)) :: rest))) : W p l e R s m args below meth c H locs cells slots Q (F0 m pc ls (.int (nI y) :: .int (nI x) :: rest)) :=
  lv_irem hx hb hdg (nI_ne0 h0 hy) (by rw [pk_rem hx1 h0 hy]; exact k)
theorem n_icmp_lt (hx : p.tables.exec = Jvm.exec) (hb : c.code = cc) (hdg : decode cc pc = .ok (.if_icmp .lt off, 3)) (ht : (pc : Int) + off = (tgt : Int)) (bx : x < 2 ^ 31) (by_ : y < 2 ^ 31) (kt : x < y → W p l e R s m args below meth c H locs cells slots Q (F0 m tgt ls rest)) (kf : y ≤ x → W p l e R s m args below meth c H locs cells slots Q (F0 m (pc + 3) ls rest)) : W p l e R s m args below meth c H locs cells slots Q (F0 m pc ls (.int (nI y) :: .int (nI x) :: rest)) :=
  lv_icmp_lt hx hb hdg ht (fun h => kt ((nI_ltI bx by_).mp h)) (fun h => kf (Nat.not_lt.mp fun q => h ((nI_ltI bx by_).mpr q)))
theorem n_icmp_ge (hx : p.tables.exec = Jvm.exec) (hb : c.code = cc) (hdg : decode cc pc = .ok (.if_icmp .ge off, 3)) (ht : (pc : Int) + off = (tgt : Int)) (bx : x < 2 ^ 31) (by_ : y < 2 ^ 31) (kt : y ≤ x → W p l e R s m args below meth c H locs cells slots Q (F0 m tgt ls rest)) (kf : x < y → W p l e R s m args below meth c H locs cells slots Q (F0 m (pc + 3) ls rest)) : W p l e R s m args below meth c H locs cells slots Q (F0 m pc ls (.int (nI y) :: .int (nI x) :: rest)) :=
  lv_icmp_ge hx hb hdg ht (fun h => kt ((nI_leI by_ bx).mp h)) (fun h => kf (Nat.not_le.mp fun q => h ((nI_leI by_ bx).mpr q)))
theorem n_icmp_gt (hx : p.tables.exec = Jvm.exec) (hb : c.code = cc) (hdg : decode cc pc = .ok (.if_icmp .gt off, 3)) (ht : (pc : Int) + off = (tgt : Int)) (bx : x < 2 ^ 31) (by_ : y < 2 ^ 31) (kt : y < x → W p l e R s m args below meth c H locs cells slots Q (F0 m tgt ls rest)) (kf : x ≤ y → W p l e R s m args below meth c H locs cells slots Q (F0 m (pc + 3) ls rest)) : W p l e R s m args below meth c H locs cells slots Q (F0 m pc ls (.int (nI y) :: .int (nI x) :: rest)) :=
  lv_icmp_gt hx hb hdg ht (fun h => kt ((nI_ltI by_ bx).mp h)) (fun h => kf (Nat.not_lt.mp fun q => h ((nI_ltI by_ bx).mpr q)))
theorem n_icmp_le (hx : p.tables.exec = Jvm.exec) (hb : c.code = cc) (hdg : decode cc pc = .ok (.if_icmp .le off, 3)) (ht : (pc : Int) + off = (tgt : Int)) (bx : x < 2 ^ 31) (by_ : y < 2 ^ 31) (kt : x ≤ y → W p l e R s m args below meth c H locs cells slots Q (F0 m tgt ls rest)) (kf : y < x → W p l e R s m args below meth c H locs cells slots Q (F0 m (pc + 3) ls rest)) : W p l e R s m args below meth c H locs cells slots Q (F0 m pc ls (.int (nI y) :: .int (nI x) :: rest)) :=
  lv_icmp_le hx hb hdg ht (fun h => kt ((nI_leI bx by_).mp h)) (fun h => kf (Nat.not_le.mp fun q => h ((nI_leI bx by_).mpr q)))
theorem n_icmp_eq (hx : p.tables.exec = Jvm.exec) (hb : c.code = cc) (hdg : decode cc pc = .ok (.if_icmp .eq off, 3)) (ht : (pc : Int) + off = (tgt : Int)) (bx : x < 2 ^ 31) (by_ : y < 2 ^ 31) (kt : x = y → W p l e R s m args below meth c H locs cells slots Q (F0 m tgt ls rest)) (kf : x ≠ y → W p l e R s m args below meth c H locs cells slots Q (F0 m (pc + 3) ls rest)) : W p l e R s m args below meth c H locs cells slots Q (F0 m pc ls (.int (nI y) :: .int (nI x) :: rest)) :=
  lv_icmp_eq hx hb hdg ht (fun h => kt ((nI_eq bx by_).mp h)) (fun h => kf (fun q => h ((nI_eq bx by_).mpr q)))
theorem n_icmp_ne (hx : p.tables.exec = Jvm.exec) (hb : c.code = cc) (hdg : decode cc pc = .ok (.if_icmp .ne off, 3)) (ht : (pc : Int) + off = (tgt : Int)) (bx : x < 2 ^ 31) (by_ : y < 2 ^ 31) (kt : x ≠ y → W p l e R s m args below meth c H locs cells slots Q (F0 m tgt ls rest)) (kf : x = y → W p l e R s m args below meth c H locs cells slots Q (F0 m (pc + 3) ls rest)) : W p l e R s m args below meth c H locs cells slots Q (F0 m pc ls (.int (nI y) :: .int (nI x) :: rest)) :=
  lv_icmp_ne hx hb hdg ht (fun h => kt (fun q => h ((nI_eq bx by_).mpr q))) (fun h => kf ((nI_eq bx by_).mp h))
theorem n_if_eq (hx : p.tables.exec = Jvm.exec) (hb : c.code = cc) (hdg : decode cc pc = .ok (.ifCond .eq off, 3)) (ht : (pc : Int) + off = (tgt : Int)) (bx : x < 2 ^ 31) (kt : x = 0 → W p l e R s m args below meth c H locs cells slots Q (F0 m tgt ls rest)) (kf : x ≠ 0 → W p l e R s m args below meth c H locs cells slots Q (F0 m (pc + 3) ls rest)) : W p l e R s m args below meth c H locs cells slots Q (F0 m pc ls (.int (nI x) :: rest)) :=
  lv_if_eq hx hb hdg ht (fun h => kt ((nI_eq bx (by decide)).mp (h.trans nI_0.symm))) (fun h => kf (fun q => h (by rw [q]; rfl)))
theorem n_if_ne (hx : p.tables.exec = Jvm.exec) (hb : c.code = cc) (hdg : decode cc pc = .ok (.ifCond .ne off, 3)) (ht : (pc : Int) + off = (tgt : Int)) (bx : x < 2 ^ 31) (kt : x ≠ 0 → W p l e R s m args below meth c H locs cells slots Q (F0 m tgt ls rest)) (kf : x = 0 → W p l e R s m args below meth c H locs cells slots Q (F0 m (pc + 3) ls rest)) : W p l e R s m args below meth c H locs cells slots Q (F0 m pc ls (.int (nI x) :: rest)) :=
  lv_if_ne hx hb hdg ht (fun h => kt (fun q => h (by rw [q]; rfl))) (fun h => kf ((nI_eq bx (by decide)).mp (h.trans nI_0.symm)))
theorem n_if_lt (hx : p.tables.exec = Jvm.exec) (hb : c.code = cc) (hdg : decode cc pc = .ok (.ifCond .lt off, 3)) (ht : (pc : Int) + off = (tgt : Int)) (bx : x < 2 ^ 31) (kt : False → W p l e R s m args below meth c H locs cells slots Q (F0 m tgt ls rest)) (kf : True → W p l e R s m args below meth c H locs cells slots Q (F0 m (pc + 3) ls rest)) : W p l e R s m args below meth c H locs cells slots Q (F0 m pc ls (.int (nI x) :: rest)) :=
  lv_if_lt hx hb hdg ht (fun h => absurd h (nI_pos bx)) (fun _ => kf trivial)
theorem n_if_ge (hx : p.tables.exec = Jvm.exec) (hb : c.code = cc) (hdg : decode cc pc = .ok (.ifCond .ge off, 3)) (ht : (pc : Int) + off = (tgt : Int)) (bx : x < 2 ^ 31) (kt : True → W p l e R s m args below meth c H locs cells slots Q (F0 m tgt ls rest)) (kf : False → W p l e R s m args below meth c H locs cells slots Q (F0 m (pc + 3) ls rest)) : W p l e R s m args below meth c H locs cells slots Q (F0 m pc ls (.int (nI x) :: rest)) :=
  lv_if_ge hx hb hdg ht (fun _ => kt trivial) (fun h => absurd (nI_pos' bx) h)
theorem n_if_gt (hx : p.tables.exec = Jvm.exec) (hb : c.code = cc) (hdg : decode cc pc = .ok (.ifCond .gt off, 3)) (ht : (pc : Int) + off = (tgt : Int)) (bx : x < 2 ^ 31) (kt : 0 < x → W p l e R s m args below meth c H locs cells slots Q (F0 m tgt ls rest)) (kf : x = 0 → W p l e R s m args below meth c H locs cells slots Q (F0 m (pc + 3) ls rest)) : W p l e R s m args below meth c H locs cells slots Q (F0 m pc ls (.int (nI x) :: rest)) :=
  lv_if_gt hx hb hdg ht (fun h => kt ((nI_ltI (by decide) bx).mp (show nI 0 < nI x from h))) (fun h => kf (by rcases Nat.eq_zero_or_pos x with q | q; exact q; exact absurd ((nI_ltI (by decide) bx).mpr q : nI 0 < nI x) h))
theorem n_if_le (hx : p.tables.exec = Jvm.exec) (hb : c.code = cc) (hdg : decode cc pc = .ok (.ifCond .le off, 3)) (ht : (pc : Int) + off = (tgt : Int)) (bx : x < 2 ^ 31) (kt : x = 0 → W p l e R s m args below meth c H locs cells slots Q (F0 m tgt ls rest)) (kf : 0 < x → W p l e R s m args below meth c H locs cells slots Q (F0 m (pc + 3) ls rest)) : W p l e R s m args below meth c H locs cells slots Q (F0 m pc ls (.int (nI x) :: rest)) :=
  lv_if_le hx hb hdg ht (fun h => kt (by have := (nI_leI bx (by decide)).mp (show nI x ≤ nI 0 from h); omega)) (fun h => kf (by rcases Nat.eq_zero_or_pos x with q | q; exact absurd ((nI_leI bx (by decide)).mpr (by omega) : nI x ≤ nI 0) h; exact q))
theorem b_if_eq {b : Bool} (hx : p.tables.exec = Jvm.exec) (hb : c.code = cc) (hdg : decode cc pc = .ok (.ifCond .eq off, 3)) (ht : (pc : Int) + off = (tgt : Int)) (kt : b = false → W p l e R s m args below meth c H locs cells slots Q (F0 m tgt ls rest)) (kf : b = true → W p l e R s m args below meth c H locs cells slots Q (F0 m (pc + 3) ls rest)) : W p l e R s m args below meth c H locs cells slots Q (F0 m pc ls (.int (bI b) :: rest)) :=
  lv_if_eq hx hb hdg ht (fun h => kt (bI_0.mp h)) (fun h => kf (bI_n0.mp h))
theorem b_if_ne {b : Bool} (hx : p.tables.exec = Jvm.exec) (hb : c.code = cc) (hdg : decode cc pc = .ok (.ifCond .ne off, 3)) (ht : (pc : Int) + off = (tgt : Int)) (kt : b = true → W p l e R s m args below meth c H locs cells slots Q (F0 m tgt ls rest)) (kf : b = false → W p l e R s m args below meth c H locs cells slots Q (F0 m (pc + 3) ls rest)) : W p l e R s m args below meth c H locs cells slots Q (F0 m pc ls (.int (bI b) :: rest)) :=
  lv_if_ne hx hb hdg ht (fun h => kt (bI_n0.mp h)) (fun h => kf (bI_0.mp h))
variable {D : va_G} {G : ClassId × ClassId × ClassId} {ws : va_W} {a : Nat} {n j : Nat} {A : Nat → Prop} {H0 : Heap}
theorem n_iald {f : Nat → Nat} (hx : p.tables.exec = Jvm.exec) (hb : c.code = cc) (hK : va_K D cls5 (tys3 G) s) (hP : va_P D cls5 ws H) (q0 : Nat) (ha : ws[q0]? = some (a, .inl (G.1, n, .inl (nF f)))) (hj : j < n ∧ j < 2 ^ 31 ∧ n < 2 ^ 31) (hdg : decode cc pc = .ok (.iaload, 1))
    (kk : W p l e R s m args below meth c H locs cells slots Q (F0 m (pc + 1) ls (.int (nI (f j)) :: rest))) : W p l e R s m args below meth c H locs cells slots Q (F0 m pc ls (.int (nI j) :: .ref a :: rest)) :=
  va_iald hx hb hK hP q0 0 ha rfl (vp_in_nI hj.1 hj.2.2) hdg (by rw [nI_clamp hj.2.1]; exact kk)
theorem n_bald {f : Nat → Int32} (hx : p.tables.exec = Jvm.exec) (hb : c.code = cc) (hK : va_K D cls5 (tys3 G) s) (hP : va_P D cls5 ws H) (q0 : Nat) (ha : ws[q0]? = some (a, .inl (G.2.1, n, .inl f))) (hj : j < n) (hn : n < 2 ^ 31) (hdg : decode cc pc = .ok (.baload, 1))
    (kk : W p l e R s m args below meth c H locs cells slots Q (F0 m (pc + 1) ls (.int (f j) :: rest))) : W p l e R s m args below meth c H locs cells slots Q (F0 m pc ls (.int (nI j) :: .ref a :: rest)) :=
  va_bald hx hb hK hP q0 1 ha rfl (vp_in_nI hj hn) hdg (by rw [nI_clamp (by omega)]; exact kk)
theorem n_zald {f : Nat → Int32} (hx : p.tables.exec = Jvm.exec) (hb : c.code = cc) (hK : va_K D cls5 (tys3 G) s) (hP : va_P D cls5 ws H) (q0 : Nat) (ha : ws[q0]? = some (a, .inl (G.2.2, n, .inl f))) (hj : j < n) (hn : n < 2 ^ 31) (hdg : decode cc pc = .ok (.baload, 1))
    (kk : W p l e R s m args below meth c H locs cells slots Q (F0 m (pc + 1) ls (.int (f j) :: rest))) : W p l e R s m args below meth c H locs cells slots Q (F0 m pc ls (.int (nI j) :: .ref a :: rest)) :=
  va_zald hx hb hK hP q0 2 ha rfl (vp_in_nI hj hn) hdg (by rw [nI_clamp (by omega)]; exact kk)
theorem n_iast {f : Nat → Nat} {x : Nat} (hx : p.tables.exec = Jvm.exec) (hb : c.code = cc) (hK : va_K D cls5 (tys3 G) s) (hP : va_P D cls5 ws H) (hD : va_D A ws) (hS : va_S A H0 H locs) (q0 : Nat) (ha : ws[q0]? = some (a, .inl (G.1, n, .inl (nF f)))) (hj : j < n ∧ j < 2 ^ 31 ∧ n < 2 ^ 31) (hdg : decode cc pc = .ok (.iastore, 1))
    (kk : ∀ (H1 : Heap) (locs1 : List Loc), va_P D cls5 (ws.set q0 (a, .inl (G.1, n, .inl (nF (va_up f j x))))) H1 → va_D A (ws.set q0 (a, .inl (G.1, n, .inl (nF (va_up f j x))))) → va_S A H0 H1 locs1 → W p l e R s m args below meth c H1 locs1 cells slots Q (F0 m (pc + 1) ls rest)) : W p l e R s m args below meth c H locs cells slots Q (F0 m pc ls (.int (nI x) :: .int (nI j) :: .ref a :: rest)) :=
  va_iast hx hb hK hP hD hS q0 0 ha rfl (vp_in_nI hj.1 hj.2.2) hdg (fun H1 locs1 h1 h2 h3 => by
    rw [nI_clamp hj.2.1, upd_nF] at h1 h2
    exact kk H1 locs1 h1 h2 h3)
end KN
theorem iX1 {y : MethodName} {cc : ByteArray} {n : Nat} {r : Option FieldType} : ∀ w ∈ wsX10, w ∈ wM y cc n r := fun w h => List.mem_cons_of_mem _ ((by decide +kernel : ∀ w ∈ wsX10, w ∈ WT) w h)
theorem iX2 {y : MethodName} {cc : ByteArray} {n : Nat} {r : Option FieldType} : ∀ w ∈ wsX20, w ∈ wM y cc n r := fun w h => List.mem_cons_of_mem _ ((by decide +kernel : ∀ w ∈ wsX20, w ∈ WT) w h)
theorem iX3 {y : MethodName} {cc : ByteArray} {n : Nat} {r : Option FieldType} : ∀ w ∈ wsX30, w ∈ wM y cc n r := fun w h => List.mem_cons_of_mem _ ((by decide +kernel : ∀ w ∈ wsX30, w ∈ WT) w h)
theorem iX4 {y : MethodName} {cc : ByteArray} {n : Nat} {r : Option FieldType} : ∀ w ∈ wsX40, w ∈ wM y cc n r := fun w h => List.mem_cons_of_mem _ ((by decide +kernel : ∀ w ∈ wsX40, w ∈ WT) w h)
theorem iX5 {y : MethodName} {cc : ByteArray} {n : Nat} {r : Option FieldType} : ∀ w ∈ wsX50, w ∈ wM y cc n r := fun w h => List.mem_cons_of_mem _ ((by decide +kernel : ∀ w ∈ wsX50, w ∈ WT) w h)
end
section
theorem lam_add0 (n : Nat) : n + 0 = n := rfl
def cpN (g f : Nat → Nat) (n : Nat) : Nat → Nat := fun i => if i < n then g i else f i
theorem cpN_0 (g f : Nat → Nat) : cpN g f 0 = f := by funext i; simp [cpN]
theorem cpN_s (g f : Nat → Nat) (n : Nat) : va_up (cpN g f n) n (g n) = cpN g f (n + 1) := by
  funext i
  by_cases h : i = n
  · subst h; simp [cpN, va_up]
  · simp only [cpN, va_up, h, if_false]
    by_cases h2 : i < n
    · rw [if_pos h2, if_pos (by omega)]
    · rw [if_neg h2, if_neg (by omega)]
theorem max0_nI {a b : Nat} (ha : a < 2 ^ 30) (hb : b < 2 ^ 30) : (if nI a - nI b < nI 0 then nI 0 else nI a - nI b) = nI (a - b) := by
  by_cases h : a < b
  · rw [if_pos (show nI a - nI b < nI 0 from pk_sneg hb h), Nat.sub_eq_zero_of_le (Nat.le_of_lt h)]
  · rw [pk_sub (by omega), if_neg (show ¬ nI (a - b) < nI 0 from nI_pos (by omega))]
def lP (law k : Nat) : Nat := match k with
  | 0 => law / 360 + 1
  | 1 => law / 36 % 10
  | 2 => law / 4 % 9 + 1
  | _ => law % 4
theorem lP0 {law : Nat} (h : law < 3240) : 1 ≤ lP law 0 ∧ lP law 0 ≤ 9 := by show 1 ≤ law / 360 + 1 ∧ law / 360 + 1 ≤ 9; omega
theorem lP1 (law : Nat) : lP law 1 ≤ 9 := by show law / 36 % 10 ≤ 9; omega
theorem lP2 (law : Nat) : 1 ≤ lP law 2 ∧ lP law 2 ≤ 9 := by show 1 ≤ law / 4 % 9 + 1 ∧ law / 4 % 9 + 1 ≤ 9; omega
theorem lP3 (law : Nat) : lP law 3 ≤ 3 := by show law % 4 ≤ 3; omega
/-- cups by a law: A, B, D, T -/
def dk (a b d t w n h : Nat) : Nat := (a * w - t * n + b + h) / d
def drk (law w n h : Nat) : Nat := dk (lP law 0) (lP law 1) (lP law 2) (lP law 3) w n h

set_option maxHeartbeats 4000000 in
set_option maxRecDepth 100000 in
theorem c_X3_size (l : Launch) (D : va_G) (G : ClassId × ClassId × ClassId) (H0 : Heap) (r b cap n : Nat) (f : Nat → Nat)  : Met l yX3_size (wM yX3_size cX3_size 1 (some .int)) (rmD 1) (rP D G [.ref (r)] [(r, .inr (2, [.ref (b), .int (nI n)])), (b, .inl (G.1, cap, .inl (nF (f))))] H0) (rQi (nI n) H0) 0 0 (rF H0) := by
  refine ro_start (Qc := fun H0 => (rQi (nI n) H0)) (by decide) (Nat.le_of_ble_eq_true rfl) ?_
  intro p e s m args below meth c hx hb hr hts hown hlocks hml hP hK hA hH0 ls hl locs hS
  have hl : lv_has ls 1 [(0, .ref (r))] := hl
  refine lv_aload_n hx hb dX3_size_0 rfl (lv_at hl 0 rfl) ?_
  refine va_get (D := D) (ci := 2) (v := .int (nI n)) (C := RX3) (T := TX3) (N := 2) hx hb hts (iX3) hown hK hP 0 rfl rfl 1 (by decide) (hts _ (List.mem_cons_of_mem _ wt_87)) (fun _ h9 => h9) rfl dX3_size_1 ?_
  exact ro_iret hx hb hr hlocks hS dX3_size_4 (rfl)

set_option maxHeartbeats 4000000 in
set_option maxRecDepth 100000 in
theorem c_X3_has (l : Launch) (D : va_G) (G : ClassId × ClassId × ClassId) (H0 : Heap) (r b cap n : Nat) (f : Nat → Nat) (i : Int32)  : Met l yX3_has (wM yX3_has cX3_has 2 (some .boolean)) (rmD 1) (rP D G [.ref (r), .int (i)] [(r, .inr (2, [.ref (b), .int (nI n)])), (b, .inl (G.1, cap, .inl (nF (f))))] H0) (rQi (bI (hasB i n)) H0) 0 0 (rF H0) := by
  refine ro_start (Qc := fun H0 => (rQi (bI (hasB i n)) H0)) (by decide) (Nat.le_of_ble_eq_true rfl) ?_
  intro p e s m args below meth c hx hb hr hts hown hlocks hml hP hK hA hH0 ls hl locs hS
  have hl : lv_has ls 2 [(0, .ref (r)), (1, .int (i))] := hl
  refine lv_iload_n hx hb dX3_has_0 rfl (lv_at hl 1 rfl) ?_
  refine lv_if_lt (tgt := 16) hx hb dX3_has_1 (by decide) (fun c_1 => ?_) (fun c_1 => ?_)
  · refine lv_iconst (v := nI (0)) hx hb dX3_has_16 (by decide) ?_
    exact ro_zret hx hb hr hlocks hS dX3_has_17 (rfl) (bI_of_f (decide_eq_false (fun q => absurd q.1 (by rw [Int32.le_iff_toInt_le]; have := Int32.lt_iff_toInt_lt.mp c_1; omega))))
  · refine lv_iload_n hx hb dX3_has_4 rfl (lv_at hl 1 rfl) ?_
    refine lv_aload_n hx hb dX3_has_5 rfl (lv_at hl 0 rfl) ?_
    refine va_get (D := D) (ci := 2) (v := .int (nI n)) (C := RX3) (T := TX3) (N := 2) hx hb hts (iX3) hown hK hP 0 rfl rfl 1 (by decide) (hts _ (List.mem_cons_of_mem _ wt_87)) (fun _ h9 => h9) rfl dX3_has_6 ?_
    refine lv_icmp_ge (tgt := 16) hx hb dX3_has_9 (by decide) (fun c_9 => ?_) (fun c_9 => ?_)
    · refine lv_iconst (v := nI (0)) hx hb dX3_has_16 (by decide) ?_
      exact ro_zret hx hb hr hlocks hS dX3_has_17 (rfl) (bI_of_f (decide_eq_false (fun q => absurd q.2 (by rw [Int32.lt_iff_toInt_lt]; have := Int32.le_iff_toInt_le.mp c_9; omega))))
    · refine lv_iconst (v := nI (1)) hx hb dX3_has_12 (by decide) ?_
      refine lv_goto (tgt := 17) hx hb dX3_has_13 (by decide) ?_
      exact ro_zret hx hb hr hlocks hS dX3_has_17 (rfl) (bI_of_t (decide_eq_true ⟨Int32.not_lt.mp c_1, Int32.not_le.mp c_9⟩))

set_option maxHeartbeats 4000000 in
set_option maxRecDepth 100000 in
theorem c_X3_at (l : Launch) (D : va_G) (G : ClassId × ClassId × ClassId) (H0 : Heap) (r b cap n : Nat) (f : Nat → Nat) (j : Nat) (hj : j < n) (hn : n ≤ cap) (hc : cap < 2 ^ 31) : Met l yX3_at (wM yX3_at cX3_at 2 (some .int)) (rmD 1) (rP D G [.ref (r), .int (nI j)] [(r, .inr (2, [.ref (b), .int (nI n)])), (b, .inl (G.1, cap, .inl (nF (f))))] H0) (rQi (nI (f j)) H0) 0 0 (rF H0) := by
  refine ro_start (Qc := fun H0 => (rQi (nI (f j)) H0)) (by decide) (Nat.le_of_ble_eq_true rfl) ?_
  intro p e s m args below meth c hx hb hr hts hown hlocks hml hP hK hA hH0 ls hl locs hS
  have hl : lv_has ls 2 [(0, .ref (r)), (1, .int (nI j))] := hl
  refine lv_iload_n hx hb dX3_at_0 rfl (lv_at hl 1 rfl) ?_
  refine n_if_lt (tgt := 30) hx hb dX3_at_1 (by decide) (by omega) (fun c_1 => ?_) (fun c_1 => ?_)
  · exact c_1.elim
  · refine lv_iload_n hx hb dX3_at_4 rfl (lv_at hl 1 rfl) ?_
    refine lv_aload_n hx hb dX3_at_5 rfl (lv_at hl 0 rfl) ?_
    refine va_get (D := D) (ci := 2) (v := .int (nI n)) (C := RX3) (T := TX3) (N := 2) hx hb hts (iX3) hown hK hP 0 rfl rfl 1 (by decide) (hts _ (List.mem_cons_of_mem _ wt_87)) (fun _ h9 => h9) rfl dX3_at_6 ?_
    refine n_icmp_ge (tgt := 30) hx hb dX3_at_9 (by decide) (by omega) (by omega) (fun c_9 => ?_) (fun c_9 => ?_)
    · exact absurd c_9 (by omega)
    · refine lv_iload_n hx hb dX3_at_12 rfl (lv_at hl 1 rfl) ?_
      refine lv_aload_n hx hb dX3_at_13 rfl (lv_at hl 0 rfl) ?_
      refine va_get (D := D) (ci := 2) (v := .ref (b)) (C := RX3) (T := TX3) (N := 2) hx hb hts (iX3) hown hK hP 0 rfl rfl 0 (by decide) (hts _ (List.mem_cons_of_mem _ wt_86)) (fun _ h9 => h9) rfl dX3_at_14 ?_
      refine va_alen (v := nI (cap)) hx hb hK hP 1 0 rfl rfl rfl dX3_at_17 ?_
      refine n_icmp_ge (tgt := 30) hx hb dX3_at_18 (by decide) (by omega) (by omega) (fun c_18 => ?_) (fun c_18 => ?_)
      · exact absurd c_18 (by omega)
      · refine lv_aload_n hx hb dX3_at_21 rfl (lv_at hl 0 rfl) ?_
        refine va_get (D := D) (ci := 2) (v := .ref (b)) (C := RX3) (T := TX3) (N := 2) hx hb hts (iX3) hown hK hP 0 rfl rfl 0 (by decide) (hts _ (List.mem_cons_of_mem _ wt_86)) (fun _ h9 => h9) rfl dX3_at_22 ?_
        refine lv_iload_n hx hb dX3_at_25 rfl (lv_at hl 1 rfl) ?_
        refine n_iald hx hb hK hP 1 (f := f) rfl (by omega) dX3_at_26 ?_
        refine lv_goto (tgt := 31) hx hb dX3_at_27 (by decide) ?_
        exact ro_iret hx hb hr hlocks hS dX3_at_31 (rfl)

set_option maxHeartbeats 4000000 in
set_option maxRecDepth 100000 in
theorem c_X3_put (l : Launch) (D : va_G) (G : ClassId × ClassId × ClassId) (H0 : Heap) (r b cap n : Nat) (f : Nat → Nat) (j x : Nat) (hj : j < n) (hn : n ≤ cap) (hc : cap < 2 ^ 31) : Met l yX3_put (wM yX3_put cX3_put 3 none) (rmD 1) (wP D G [.ref (r), .int (nI j), .int (nI x)] [(r, .inr (2, [.ref (b), .int (nI n)])), (b, .inl (G.1, cap, .inl (nF (f))))] H0) (wQv (S := Unit) D (fun _ => True) [(r, .inr (2, [.ref (b), .int (nI n)])), (b, .inl (G.1, cap, .inl (nF (f))))] (fun _ => [(r, .inr (2, [.ref (b), .int (nI n)])), (b, .inl (G.1, cap, .inl (nF (va_up f j x))))]) H0) 0 0 (va_A [(r, .inr (2, [.ref (b), .int (nI n)])), (b, .inl (G.1, cap, .inl (nF (f))))] H0.size) := by
  refine wr_start (Qc := fun H0 => (wQv (S := Unit) D (fun _ => True) [(r, .inr (2, [.ref (b), .int (nI n)])), (b, .inl (G.1, cap, .inl (nF (f))))] (fun _ => [(r, .inr (2, [.ref (b), .int (nI n)])), (b, .inl (G.1, cap, .inl (nF (va_up f j x))))]) H0)) (by decide) (Nat.le_of_ble_eq_true rfl) ?_
  intro p e s m args below meth c hx hb hr hts hown hlocks hml hK A hAe hA hH0 ls hl H locs hP hD hS
  have hl : lv_has ls 3 [(0, .ref (r)), (1, .int (nI j)), (2, .int (nI x))] := hl
  refine lv_iload_n hx hb dX3_put_0 rfl (lv_at hl 1 rfl) ?_
  refine n_if_lt (tgt := 28) hx hb dX3_put_1 (by decide) (by omega) (fun c_1 => ?_) (fun c_1 => ?_)
  · exact c_1.elim
  · refine lv_iload_n hx hb dX3_put_4 rfl (lv_at hl 1 rfl) ?_
    refine lv_aload_n hx hb dX3_put_5 rfl (lv_at hl 0 rfl) ?_
    refine va_get (D := D) (ci := 2) (v := .int (nI n)) (C := RX3) (T := TX3) (N := 2) hx hb hts (iX3) hown hK hP 0 rfl rfl 1 (by decide) (hts _ (List.mem_cons_of_mem _ wt_87)) (fun _ h9 => h9) rfl dX3_put_6 ?_
    refine n_icmp_ge (tgt := 28) hx hb dX3_put_9 (by decide) (by omega) (by omega) (fun c_9 => ?_) (fun c_9 => ?_)
    · exact absurd c_9 (by omega)
    · refine lv_iload_n hx hb dX3_put_12 rfl (lv_at hl 1 rfl) ?_
      refine lv_aload_n hx hb dX3_put_13 rfl (lv_at hl 0 rfl) ?_
      refine va_get (D := D) (ci := 2) (v := .ref (b)) (C := RX3) (T := TX3) (N := 2) hx hb hts (iX3) hown hK hP 0 rfl rfl 0 (by decide) (hts _ (List.mem_cons_of_mem _ wt_86)) (fun _ h9 => h9) rfl dX3_put_14 ?_
      refine va_alen (v := nI (cap)) hx hb hK hP 1 0 rfl rfl rfl dX3_put_17 ?_
      refine n_icmp_ge (tgt := 28) hx hb dX3_put_18 (by decide) (by omega) (by omega) (fun c_18 => ?_) (fun c_18 => ?_)
      · exact absurd c_18 (by omega)
      · refine lv_aload_n hx hb dX3_put_21 rfl (lv_at hl 0 rfl) ?_
        refine va_get (D := D) (ci := 2) (v := .ref (b)) (C := RX3) (T := TX3) (N := 2) hx hb hts (iX3) hown hK hP 0 rfl rfl 0 (by decide) (hts _ (List.mem_cons_of_mem _ wt_86)) (fun _ h9 => h9) rfl dX3_put_22 ?_
        refine lv_iload_n hx hb dX3_put_25 rfl (lv_at hl 1 rfl) ?_
        refine lv_iload_n hx hb dX3_put_26 rfl (lv_at hl 2 rfl) ?_
        refine n_iast hx hb hK hP hD hS 1 (f := f) rfl (by omega) dX3_put_27 (fun H locs hP hD hS => ?_)
        have hP : va_P D cls5 [(r, .inr (2, [.ref (b), .int (nI n)])), (b, .inl (G.1, cap, .inl (nF (va_up f j x))))] H := hP
        have hD : va_D A [(r, .inr (2, [.ref (b), .int (nI n)])), (b, .inl (G.1, cap, .inl (nF (va_up f j x))))] := hD
        exact wr_vret (()) hx hb hr hlocks hAe hS dX3_put_28 (hP) (trivial)

set_option maxHeartbeats 4000000 in
set_option maxRecDepth 100000 in
theorem c_X3_add (l : Launch) (D : va_G) (G : ClassId × ClassId × ClassId) (H0 : Heap) (r b cap n : Nat) (f : Nat → Nat) (x : Nat) (hn : n < cap) (hc : cap < 2 ^ 31) : Met l yX3_add (wM yX3_add cX3_add 2 none) (rmD 1) (wP D G [.ref (r), .int (nI x)] [(r, .inr (2, [.ref (b), .int (nI n)])), (b, .inl (G.1, cap, .inl (nF (f))))] H0) (wQv (S := Unit) D (fun _ => True) [(r, .inr (2, [.ref (b), .int (nI n)])), (b, .inl (G.1, cap, .inl (nF (f))))] (fun _ => [(r, .inr (2, [.ref (b), .int (nI (n + 1))])), (b, .inl (G.1, cap, .inl (nF (va_up f n x))))]) H0) 0 0 (va_A [(r, .inr (2, [.ref (b), .int (nI n)])), (b, .inl (G.1, cap, .inl (nF (f))))] H0.size) := by
  refine wr_start (Qc := fun H0 => (wQv (S := Unit) D (fun _ => True) [(r, .inr (2, [.ref (b), .int (nI n)])), (b, .inl (G.1, cap, .inl (nF (f))))] (fun _ => [(r, .inr (2, [.ref (b), .int (nI (n + 1))])), (b, .inl (G.1, cap, .inl (nF (va_up f n x))))]) H0)) (by decide) (Nat.le_of_ble_eq_true rfl) ?_
  intro p e s m args below meth c hx hb hr hts hown hlocks hml hK A hAe hA hH0 ls hl H locs hP hD hS
  have hl : lv_has ls 2 [(0, .ref (r)), (1, .int (nI x))] := hl
  refine lv_aload_n hx hb dX3_add_0 rfl (lv_at hl 0 rfl) ?_
  refine va_get (D := D) (ci := 2) (v := .int (nI n)) (C := RX3) (T := TX3) (N := 2) hx hb hts (iX3) hown hK hP 0 rfl rfl 1 (by decide) (hts _ (List.mem_cons_of_mem _ wt_87)) (fun _ h9 => h9) rfl dX3_add_1 ?_
  refine n_if_lt (tgt := 39) hx hb dX3_add_4 (by decide) (by omega) (fun c_4 => ?_) (fun c_4 => ?_)
  · exact c_4.elim
  · refine lv_aload_n hx hb dX3_add_7 rfl (lv_at hl 0 rfl) ?_
    refine va_get (D := D) (ci := 2) (v := .int (nI n)) (C := RX3) (T := TX3) (N := 2) hx hb hts (iX3) hown hK hP 0 rfl rfl 1 (by decide) (hts _ (List.mem_cons_of_mem _ wt_87)) (fun _ h9 => h9) rfl dX3_add_8 ?_
    refine lv_aload_n hx hb dX3_add_11 rfl (lv_at hl 0 rfl) ?_
    refine va_get (D := D) (ci := 2) (v := .ref (b)) (C := RX3) (T := TX3) (N := 2) hx hb hts (iX3) hown hK hP 0 rfl rfl 0 (by decide) (hts _ (List.mem_cons_of_mem _ wt_86)) (fun _ h9 => h9) rfl dX3_add_12 ?_
    refine va_alen (v := nI (cap)) hx hb hK hP 1 0 rfl rfl rfl dX3_add_15 ?_
    refine n_icmp_ge (tgt := 39) hx hb dX3_add_16 (by decide) (by omega) (by omega) (fun c_16 => ?_) (fun c_16 => ?_)
    · exact absurd c_16 (by omega)
    · refine lv_aload_n hx hb dX3_add_19 rfl (lv_at hl 0 rfl) ?_
      refine va_get (D := D) (ci := 2) (v := .ref (b)) (C := RX3) (T := TX3) (N := 2) hx hb hts (iX3) hown hK hP 0 rfl rfl 0 (by decide) (hts _ (List.mem_cons_of_mem _ wt_86)) (fun _ h9 => h9) rfl dX3_add_20 ?_
      refine lv_aload_n hx hb dX3_add_23 rfl (lv_at hl 0 rfl) ?_
      refine va_get (D := D) (ci := 2) (v := .int (nI n)) (C := RX3) (T := TX3) (N := 2) hx hb hts (iX3) hown hK hP 0 rfl rfl 1 (by decide) (hts _ (List.mem_cons_of_mem _ wt_87)) (fun _ h9 => h9) rfl dX3_add_24 ?_
      refine lv_iload_n hx hb dX3_add_27 rfl (lv_at hl 1 rfl) ?_
      refine n_iast hx hb hK hP hD hS 1 (f := f) rfl (by omega) dX3_add_28 (fun H locs hP hD hS => ?_)
      have hP : va_P D cls5 [(r, .inr (2, [.ref (b), .int (nI n)])), (b, .inl (G.1, cap, .inl (nF (va_up f n x))))] H := hP
      have hD : va_D A [(r, .inr (2, [.ref (b), .int (nI n)])), (b, .inl (G.1, cap, .inl (nF (va_up f n x))))] := hD
      refine lv_aload_n hx hb dX3_add_29 rfl (lv_at hl 0 rfl) ?_
      refine lv_dup hx hb dX3_add_30 rfl ?_
      refine va_get (D := D) (ci := 2) (v := .int (nI n)) (C := RX3) (T := TX3) (N := 2) hx hb hts (iX3) hown hK hP 0 rfl rfl 1 (by decide) (hts _ (List.mem_cons_of_mem _ wt_87)) (fun _ h9 => h9) rfl dX3_add_31 ?_
      refine lv_iconst (v := nI (1)) hx hb dX3_add_34 (by decide) ?_
      refine n_iadd hx hb dX3_add_35 ?_
      refine va_put (D := D) (ci := 2) (v := .int (nI (n + 1))) (ty := .int) (C := RX3) (T := TX3) (N := 2) hx hb hts (iX3) tyX3 tyX3_ok nmX3 hown hK hP hD hS 0 rfl rfl 1 (by decide) (hts _ (List.mem_cons_of_mem _ wt_87)) (fun _ h9 => h9) rfl (by decide +kernel) (rfl) (rfl) (Nat.le_of_ble_eq_true rfl) dX3_add_36 (fun H locs hP hD hS => ?_)
      have hP : va_P D cls5 [(r, .inr (2, [.ref (b), .int (nI (n + 1))])), (b, .inl (G.1, cap, .inl (nF (va_up f n x))))] H := hP
      have hD : va_D A [(r, .inr (2, [.ref (b), .int (nI (n + 1))])), (b, .inl (G.1, cap, .inl (nF (va_up f n x))))] := hD
      exact wr_vret (()) hx hb hr hlocks hAe hS dX3_add_39 (hP) (trivial)

set_option maxHeartbeats 4000000 in
set_option maxRecDepth 100000 in
theorem c_X3_cutTo (l : Launch) (D : va_G) (G : ClassId × ClassId × ClassId) (H0 : Heap) (r b cap n : Nat) (f : Nat → Nat) (k : Nat) (hk : k ≤ n) (hn : n < 2 ^ 31) : Met l yX3_cutTo (wM yX3_cutTo cX3_cutTo 2 none) (rmD 1) (wP D G [.ref (r), .int (nI k)] [(r, .inr (2, [.ref (b), .int (nI n)])), (b, .inl (G.1, cap, .inl (nF (f))))] H0) (wQv (S := Unit) D (fun _ => True) [(r, .inr (2, [.ref (b), .int (nI n)])), (b, .inl (G.1, cap, .inl (nF (f))))] (fun _ => [(r, .inr (2, [.ref (b), .int (nI k)])), (b, .inl (G.1, cap, .inl (nF (f))))]) H0) 0 0 (va_A [(r, .inr (2, [.ref (b), .int (nI n)])), (b, .inl (G.1, cap, .inl (nF (f))))] H0.size) := by
  refine wr_start (Qc := fun H0 => (wQv (S := Unit) D (fun _ => True) [(r, .inr (2, [.ref (b), .int (nI n)])), (b, .inl (G.1, cap, .inl (nF (f))))] (fun _ => [(r, .inr (2, [.ref (b), .int (nI k)])), (b, .inl (G.1, cap, .inl (nF (f))))]) H0)) (by decide) (Nat.le_of_ble_eq_true rfl) ?_
  intro p e s m args below meth c hx hb hr hts hown hlocks hml hK A hAe hA hH0 ls hl H locs hP hD hS
  have hl : lv_has ls 2 [(0, .ref (r)), (1, .int (nI k))] := hl
  refine lv_iload_n hx hb dX3_cutTo_0 rfl (lv_at hl 1 rfl) ?_
  refine n_if_lt (tgt := 17) hx hb dX3_cutTo_1 (by decide) (by omega) (fun c_1 => ?_) (fun c_1 => ?_)
  · exact c_1.elim
  · refine lv_iload_n hx hb dX3_cutTo_4 rfl (lv_at hl 1 rfl) ?_
    refine lv_aload_n hx hb dX3_cutTo_5 rfl (lv_at hl 0 rfl) ?_
    refine va_get (D := D) (ci := 2) (v := .int (nI n)) (C := RX3) (T := TX3) (N := 2) hx hb hts (iX3) hown hK hP 0 rfl rfl 1 (by decide) (hts _ (List.mem_cons_of_mem _ wt_87)) (fun _ h9 => h9) rfl dX3_cutTo_6 ?_
    refine n_icmp_ge (tgt := 17) hx hb dX3_cutTo_9 (by decide) (by omega) (by omega) (fun c_9 => ?_) (fun c_9 => ?_)
    · exact wr_vret (()) hx hb hr hlocks hAe hS dX3_cutTo_17 (by obtain rfl : k = n := (by omega); exact hP) (trivial)
    · refine lv_aload_n hx hb dX3_cutTo_12 rfl (lv_at hl 0 rfl) ?_
      refine lv_iload_n hx hb dX3_cutTo_13 rfl (lv_at hl 1 rfl) ?_
      refine va_put (D := D) (ci := 2) (v := .int (nI k)) (ty := .int) (C := RX3) (T := TX3) (N := 2) hx hb hts (iX3) tyX3 tyX3_ok nmX3 hown hK hP hD hS 0 rfl rfl 1 (by decide) (hts _ (List.mem_cons_of_mem _ wt_87)) (fun _ h9 => h9) rfl (by decide +kernel) (rfl) (rfl) (Nat.le_of_ble_eq_true rfl) dX3_cutTo_14 (fun H locs hP hD hS => ?_)
      have hP : va_P D cls5 [(r, .inr (2, [.ref (b), .int (nI k)])), (b, .inl (G.1, cap, .inl (nF (f))))] H := hP
      have hD : va_D A [(r, .inr (2, [.ref (b), .int (nI k)])), (b, .inl (G.1, cap, .inl (nF (f))))] := hD
      exact wr_vret (()) hx hb hr hlocks hAe hS dX3_cutTo_17 (hP) (trivial)

set_option maxHeartbeats 4000000 in
set_option maxRecDepth 100000 in
theorem c_X3_copyFrom (l : Launch) (D : va_G) (G : ClassId × ClassId × ClassId) (H0 : Heap) (r b cap n : Nat) (f : Nat → Nat) (r2 b2 cap2 n2 : Nat) (g : Nat → Nat) (hn : n ≤ cap) (hc : cap < 2 ^ 31) (hn2 : n2 ≤ cap) (hn3 : n2 ≤ cap2) (hc2 : cap2 < 2 ^ 31) : Met l yX3_copyFrom (wM yX3_copyFrom cX3_copyFrom 3 none) (rmD 2) (wP D G [.ref (r), .ref (r2)] [(r, .inr (2, [.ref (b), .int (nI n)])), (b, .inl (G.1, cap, .inl (nF (f)))), (r2, .inr (2, [.ref (b2), .int (nI n2)])), (b2, .inl (G.1, cap2, .inl (nF (g))))] H0) (wQv (S := Unit) D (fun _ => True) [(r, .inr (2, [.ref (b), .int (nI n)])), (b, .inl (G.1, cap, .inl (nF (f)))), (r2, .inr (2, [.ref (b2), .int (nI n2)])), (b2, .inl (G.1, cap2, .inl (nF (g))))] (fun _ => [(r, .inr (2, [.ref (b), .int (nI n2)])), (b, .inl (G.1, cap, .inl (nF (cpN g f n2)))), (r2, .inr (2, [.ref (b2), .int (nI n2)])), (b2, .inl (G.1, cap2, .inl (nF (g))))]) H0) 0 0 (va_A [(r, .inr (2, [.ref (b), .int (nI n)])), (b, .inl (G.1, cap, .inl (nF (f)))), (r2, .inr (2, [.ref (b2), .int (nI n2)])), (b2, .inl (G.1, cap2, .inl (nF (g))))] H0.size) := by
  refine wr_start (Qc := fun H0 => (wQv (S := Unit) D (fun _ => True) [(r, .inr (2, [.ref (b), .int (nI n)])), (b, .inl (G.1, cap, .inl (nF (f)))), (r2, .inr (2, [.ref (b2), .int (nI n2)])), (b2, .inl (G.1, cap2, .inl (nF (g))))] (fun _ => [(r, .inr (2, [.ref (b), .int (nI n2)])), (b, .inl (G.1, cap, .inl (nF (cpN g f n2)))), (r2, .inr (2, [.ref (b2), .int (nI n2)])), (b2, .inl (G.1, cap2, .inl (nF (g))))]) H0)) (by decide) (Nat.le_of_ble_eq_true rfl) ?_
  intro p e s m args below meth c hx hb hr hts hown hlocks hml hK A hAe hA hH0 ls hl H locs hP hD hS
  have hl : lv_has ls 3 [(0, .ref (r)), (1, .ref (r2))] := hl
  refine lv_aload_n hx hb dX3_copyFrom_0 rfl (lv_at hl 0 rfl) ?_
  refine lv_iconst (v := nI (0)) hx hb dX3_copyFrom_1 (by decide) ?_
  refine wr_v (wrV_run (As := [.int (nI 0)]) (rest := []) hx hb hml hown hts Tg_M (c_X3_cutTo l D G _ r b cap n f 0 (by omega) (by omega)) lk_RX3_23 ⟨rfl, rfl, Nat.le_of_ble_eq_true rfl, Nat.le_of_ble_eq_true rfl⟩ hP hD hK [0, 1] rfl rfl 0 2 rfl rfl rfl rfl hl rfl (Nat.le_of_ble_eq_true rfl) dX3_copyFrom_2 ⟨Nat.le_of_ble_eq_true rfl, Nat.le_of_ble_eq_true rfl⟩) hP hD [0, 1] rfl (fun _ => rfl) hS hA (fun _ H locs _ hP hD hS => ?_)
  have hP : va_P D cls5 [(r, .inr (2, [.ref (b), .int (nI 0)])), (b, .inl (G.1, cap, .inl (nF (f)))), (r2, .inr (2, [.ref (b2), .int (nI n2)])), (b2, .inl (G.1, cap2, .inl (nF (g))))] H := hP
  have hD : va_D A [(r, .inr (2, [.ref (b), .int (nI 0)])), (b, .inl (G.1, cap, .inl (nF (f)))), (r2, .inr (2, [.ref (b2), .int (nI n2)])), (b2, .inl (G.1, cap2, .inl (nF (g))))] := hD
  rw [show nF f = nF (cpN g f 0) from congrArg nF (cpN_0 g f).symm] at hP hD
  refine lv_aload_n hx hb dX3_copyFrom_5 rfl (lv_at hl 1 rfl) ?_
  refine lv_ifnonnull (tgt := 10) hx hb dX3_copyFrom_6 (by decide) ?_
  refine lv_iconst (v := nI (0)) hx hb dX3_copyFrom_10 (by decide) ?_
  refine lv_istore_n (lv' := [(2, .int (nI 0)), (0, .ref (r)), (1, .ref (r2))]) hx hb dX3_copyFrom_11 rfl hl (by decide) rfl (fun ls hl => ?_)
  have loop_1 : ∀ (fuel : Nat) (i : Nat), (i ≤ n2) → (n2 - i) < fuel → ∀ (H : Heap) (locs : List Loc), va_P D cls5 [(r, .inr (2, [.ref (b), .int (nI i)])), (b, .inl (G.1, cap, .inl (nF (cpN g f i)))), (r2, .inr (2, [.ref (b2), .int (nI n2)])), (b2, .inl (G.1, cap2, .inl (nF (g))))] H → va_D A [(r, .inr (2, [.ref (b), .int (nI i)])), (b, .inl (G.1, cap, .inl (nF (cpN g f i)))), (r2, .inr (2, [.ref (b2), .int (nI n2)])), (b2, .inl (G.1, cap2, .inl (nF (g))))] → va_S A s.heap H locs → ∀ (ls : Array Slot), lv_has ls 3 [(0, .ref (r)), (1, .ref (r2)), (2, .int (nI i))] → W p l e (rmD 2) s m args below meth c H locs 0 0 (MQ below (wQv (S := Unit) D (fun _ => True) [(r, .inr (2, [.ref (b), .int (nI n)])), (b, .inl (G.1, cap, .inl (nF (f)))), (r2, .inr (2, [.ref (b2), .int (nI n2)])), (b2, .inl (G.1, cap2, .inl (nF (g))))] (fun _ => [(r, .inr (2, [.ref (b), .int (nI n2)])), (b, .inl (G.1, cap, .inl (nF (cpN g f n2)))), (r2, .inr (2, [.ref (b2), .int (nI n2)])), (b2, .inl (G.1, cap2, .inl (nF (g))))]) s.heap) args s 0 0 A) (F0 m 12 ls []) := by
    intro fuel
    induction fuel with
    | zero => intro i hi hfu; exact absurd hfu (Nat.not_lt_zero _)
    | succ fuel ih_2 =>
      intro i hi hfu H locs hP hD hS ls hl
      refine lv_iload_n hx hb dX3_copyFrom_12 rfl (lv_at hl 2 rfl) ?_
      refine lv_aload_n hx hb dX3_copyFrom_13 rfl (lv_at hl 1 rfl) ?_
      refine ro_i (roV_run (As := []) (rest := [.int (nI i)]) hx hb hml hown hts Tg_M (c_X3_size l D G _ r2 b2 cap2 n2 g) lk_RX3_27 ⟨rfl, rfl, Nat.le_of_ble_eq_true rfl, Nat.le_of_ble_eq_true rfl⟩ hP hK [2, 3] rfl 2 2 rfl rfl rfl rfl hl rfl (Nat.le_of_ble_eq_true rfl) dX3_copyFrom_14 ⟨Nat.le_of_ble_eq_true rfl, Nat.le_of_ble_eq_true rfl⟩) hS hA (fun locs hS => ?_)
      refine n_icmp_ge (tgt := 35) hx hb dX3_copyFrom_17 (by decide) (by omega) (by omega) (fun c_17 => ?_) (fun c_17 => ?_)
      · exact wr_vret (()) hx hb hr hlocks hAe hS dX3_copyFrom_35 (by obtain rfl : i = n2 := (by omega); exact hP) (trivial)
      · refine lv_aload_n hx hb dX3_copyFrom_20 rfl (lv_at hl 0 rfl) ?_
        refine lv_aload_n hx hb dX3_copyFrom_21 rfl (lv_at hl 1 rfl) ?_
        refine lv_iload_n hx hb dX3_copyFrom_22 rfl (lv_at hl 2 rfl) ?_
        refine ro_i (roV_run (As := [.int (nI i)]) (rest := [.ref (r)]) hx hb hml hown hts Tg_M (c_X3_at l D G _ r2 b2 cap2 n2 g i (by omega) (by omega) (by omega)) lk_RX3_31 ⟨rfl, rfl, Nat.le_of_ble_eq_true rfl, Nat.le_of_ble_eq_true rfl⟩ hP hK [2, 3] rfl 2 2 rfl rfl rfl rfl hl rfl (Nat.le_of_ble_eq_true rfl) dX3_copyFrom_23 ⟨Nat.le_of_ble_eq_true rfl, Nat.le_of_ble_eq_true rfl⟩) hS hA (fun locs hS => ?_)
        refine wr_v (wrV_run (As := [.int (nI (g i))]) (rest := []) hx hb hml hown hts Tg_M (c_X3_add l D G _ r b cap i (cpN g f i) (g i) (by omega) (by omega)) lk_RX3_35 ⟨rfl, rfl, Nat.le_of_ble_eq_true rfl, Nat.le_of_ble_eq_true rfl⟩ hP hD hK [0, 1] rfl rfl 0 2 rfl rfl rfl rfl hl rfl (Nat.le_of_ble_eq_true rfl) dX3_copyFrom_26 ⟨Nat.le_of_ble_eq_true rfl, Nat.le_of_ble_eq_true rfl⟩) hP hD [0, 1] rfl (fun _ => rfl) hS hA (fun _ H locs _ hP hD hS => ?_)
        have hP : va_P D cls5 [(r, .inr (2, [.ref (b), .int (nI (i + 1))])), (b, .inl (G.1, cap, .inl (nF (va_up (cpN g f i) i (g i))))), (r2, .inr (2, [.ref (b2), .int (nI n2)])), (b2, .inl (G.1, cap2, .inl (nF (g))))] H := hP
        have hD : va_D A [(r, .inr (2, [.ref (b), .int (nI (i + 1))])), (b, .inl (G.1, cap, .inl (nF (va_up (cpN g f i) i (g i))))), (r2, .inr (2, [.ref (b2), .int (nI n2)])), (b2, .inl (G.1, cap2, .inl (nF (g))))] := hD
        rw [cpN_s g f i] at hP hD
        refine lv_iinc (v := nI (i + 1)) (lv' := [(2, .int (nI (i + 1))), (0, .ref (r)), (1, .ref (r2))]) hx hb dX3_copyFrom_29 hl (k := 2) rfl (nI_inc _ _) (by decide) rfl (fun ls hl => ?_)
        refine lv_goto (tgt := 12) hx hb dX3_copyFrom_32 (by decide) ?_
        exact ih_2 (i + 1) (by omega) (by omega) H locs hP hD hS _ (lv_sub hl [1, 2, 0] rfl)
  exact loop_1 (n2 - 0 + 1) (0) (Nat.zero_le _) (Nat.lt_succ_self _) H locs hP hD hS _ (lv_sub hl [1, 2, 0] rfl)

set_option maxHeartbeats 4000000 in
set_option maxRecDepth 100000 in
theorem c_X0_numbered (l : Launch) (D : va_G) (G : ClassId × ClassId × ClassId) (H0 : Heap) (a bb dd t : Nat) (ha : 1 ≤ a ∧ a ≤ 9) (hb9 : bb ≤ 9) (hd9 : 1 ≤ dd ∧ dd ≤ 9) (ht9 : t ≤ 3) : Met l yX0_numbered (wM yX0_numbered cX0_numbered 4 (some .int)) (rmD 1) (rP D G [.int (nI a), .int (nI bb), .int (nI dd), .int (nI t)] [] H0) (rQi (nI (((((a - 1) * 10 + bb) * 9 + dd) - 1) * 4 + t)) H0) 0 0 (rF H0) := by
  refine ro_start (Qc := fun H0 => (rQi (nI (((((a - 1) * 10 + bb) * 9 + dd) - 1) * 4 + t)) H0)) (by decide) (Nat.le_of_ble_eq_true rfl) ?_
  intro p e s m args below meth c hx hb hr hts hown hlocks hml hP hK hA hH0 ls hl locs hS
  have hl : lv_has ls 4 [(0, .int (nI a)), (1, .int (nI bb)), (2, .int (nI dd)), (3, .int (nI t))] := hl
  refine lv_iload_n hx hb dX0_numbered_0 rfl (lv_at hl 0 rfl) ?_
  refine lv_iconst (v := nI (1)) hx hb dX0_numbered_1 (by decide) ?_
  refine n_isub hx hb dX0_numbered_2 (by omega) ?_
  refine lv_bipush (v := nI (10)) hx hb dX0_numbered_3 (by decide) ?_
  refine n_imul hx hb dX0_numbered_5 ?_
  refine lv_iload_n hx hb dX0_numbered_6 rfl (lv_at hl 1 rfl) ?_
  refine n_iadd hx hb dX0_numbered_7 ?_
  refine lv_bipush (v := nI (9)) hx hb dX0_numbered_8 (by decide) ?_
  refine n_imul hx hb dX0_numbered_10 ?_
  refine lv_iload_n hx hb dX0_numbered_11 rfl (lv_at hl 2 rfl) ?_
  refine n_iadd hx hb dX0_numbered_12 ?_
  refine lv_iconst (v := nI (1)) hx hb dX0_numbered_13 (by decide) ?_
  refine n_isub hx hb dX0_numbered_14 (by omega) ?_
  refine lv_iconst (v := nI (4)) hx hb dX0_numbered_15 (by decide) ?_
  refine n_imul hx hb dX0_numbered_16 ?_
  refine lv_iload_n hx hb dX0_numbered_17 rfl (lv_at hl 3 rfl) ?_
  refine n_iadd hx hb dX0_numbered_18 ?_
  exact ro_iret hx hb hr hlocks hS dX0_numbered_19 (rfl)

set_option maxHeartbeats 4000000 in
set_option maxRecDepth 100000 in
theorem c_X0_part (l : Launch) (D : va_G) (G : ClassId × ClassId × ClassId) (H0 : Heap) (law k : Nat) (hlaw : law < 3240) (hk : k < 4) : Met l yX0_part (wM yX0_part cX0_part 2 (some .int)) (rmD 1) (rP D G [.int (nI law), .int (nI k)] [] H0) (rQi (nI (lP law k)) H0) 0 0 (rF H0) := by
  refine ro_start (Qc := fun H0 => (rQi (nI (lP law k)) H0)) (by decide) (Nat.le_of_ble_eq_true rfl) ?_
  intro p e s m args below meth c hx hb hr hts hown hlocks hml hP hK hA hH0 ls hl locs hS
  have hl : lv_has ls 2 [(0, .int (nI law)), (1, .int (nI k))] := hl
  refine lv_iload_n hx hb dX0_part_0 rfl (lv_at hl 1 rfl) ?_
  rcases (show k = 0 ∨ k = 1 ∨ k = 2 ∨ k = 3 by omega) with rfl | rfl | rfl | rfl
  · refine lv_tableIn (off := 31) (tgt := 32) hx hb dX0_part_1 (by decide) (by decide) (by decide) (by decide) ?_
    refine lv_iload_n hx hb dX0_part_32 rfl (lv_at hl 0 rfl) ?_
    refine lv_sipush (v := nI (360)) hx hb dX0_part_33 (by decide) ?_
    refine n_idiv hx hb dX0_part_36 (by omega) (by omega) (by omega) ?_
    refine lv_iconst (v := nI (1)) hx hb dX0_part_37 (by decide) ?_
    refine n_iadd hx hb dX0_part_38 ?_
    exact ro_iret hx hb hr hlocks hS dX0_part_39 (rfl)
  · refine lv_tableIn (off := 39) (tgt := 40) hx hb dX0_part_1 (by decide) (by decide) (by decide) (by decide) ?_
    refine lv_iload_n hx hb dX0_part_40 rfl (lv_at hl 0 rfl) ?_
    refine lv_bipush (v := nI (36)) hx hb dX0_part_41 (by decide) ?_
    refine n_idiv hx hb dX0_part_43 (by omega) (by omega) (by omega) ?_
    refine lv_bipush (v := nI (10)) hx hb dX0_part_44 (by decide) ?_
    refine n_irem hx hb dX0_part_46 (by omega) (by omega) (by omega) ?_
    exact ro_iret hx hb hr hlocks hS dX0_part_47 (rfl)
  · refine lv_tableIn (off := 47) (tgt := 48) hx hb dX0_part_1 (by decide) (by decide) (by decide) (by decide) ?_
    refine lv_iload_n hx hb dX0_part_48 rfl (lv_at hl 0 rfl) ?_
    refine lv_iconst (v := nI (4)) hx hb dX0_part_49 (by decide) ?_
    refine n_idiv hx hb dX0_part_50 (by omega) (by omega) (by omega) ?_
    refine lv_bipush (v := nI (9)) hx hb dX0_part_51 (by decide) ?_
    refine n_irem hx hb dX0_part_53 (by omega) (by omega) (by omega) ?_
    refine lv_iconst (v := nI (1)) hx hb dX0_part_54 (by decide) ?_
    refine n_iadd hx hb dX0_part_55 ?_
    exact ro_iret hx hb hr hlocks hS dX0_part_56 (rfl)
  · refine lv_tableIn (off := 56) (tgt := 57) hx hb dX0_part_1 (by decide) (by decide) (by decide) (by decide) ?_
    refine lv_iload_n hx hb dX0_part_57 rfl (lv_at hl 0 rfl) ?_
    refine lv_iconst (v := nI (4)) hx hb dX0_part_58 (by decide) ?_
    refine n_irem hx hb dX0_part_59 (by omega) (by omega) (by omega) ?_
    exact ro_iret hx hb hr hlocks hS dX0_part_60 (rfl)

set_option maxHeartbeats 4000000 in
set_option maxRecDepth 100000 in
theorem c_X0_least (l : Launch) (D : va_G) (G : ClassId × ClassId × ClassId) (H0 : Heap) (k : Nat) (hk : k < 4) : Met l yX0_least (wM yX0_least cX0_least 1 (some .int)) (rmD 1) (rP D G [.int (nI k)] [] H0) (rQi (nI (if k = 0 ∨ k = 2 then 1 else 0)) H0) 0 0 (rF H0) := by
  refine ro_start (Qc := fun H0 => (rQi (nI (if k = 0 ∨ k = 2 then 1 else 0)) H0)) (by decide) (Nat.le_of_ble_eq_true rfl) ?_
  intro p e s m args below meth c hx hb hr hts hown hlocks hml hP hK hA hH0 ls hl locs hS
  have hl : lv_has ls 1 [(0, .int (nI k))] := hl
  refine lv_iload_n hx hb dX0_least_0 rfl (lv_at hl 0 rfl) ?_
  refine n_if_eq (tgt := 9) hx hb dX0_least_1 (by decide) (by omega) (fun c_1 => ?_) (fun c_1 => ?_)
  · refine lv_iconst (v := nI (1)) hx hb dX0_least_9 (by decide) ?_
    refine lv_goto (tgt := 14) hx hb dX0_least_10 (by decide) ?_
    exact ro_iret hx hb hr hlocks hS dX0_least_14 (by rw [if_pos (by omega)])
  · refine lv_iload_n hx hb dX0_least_4 rfl (lv_at hl 0 rfl) ?_
    refine lv_iconst (v := nI (2)) hx hb dX0_least_5 (by decide) ?_
    refine n_icmp_ne (tgt := 13) hx hb dX0_least_6 (by decide) (by omega) (by omega) (fun c_6 => ?_) (fun c_6 => ?_)
    · refine lv_iconst (v := nI (0)) hx hb dX0_least_13 (by decide) ?_
      exact ro_iret hx hb hr hlocks hS dX0_least_14 (by rw [if_neg (by omega)])
    · refine lv_iconst (v := nI (1)) hx hb dX0_least_9 (by decide) ?_
      refine lv_goto (tgt := 14) hx hb dX0_least_10 (by decide) ?_
      exact ro_iret hx hb hr hlocks hS dX0_least_14 (by rw [if_pos (by omega)])

set_option maxHeartbeats 4000000 in
set_option maxRecDepth 100000 in
theorem c_X0_most (l : Launch) (D : va_G) (G : ClassId × ClassId × ClassId) (H0 : Heap) (k : Nat) (hk : k < 4) : Met l yX0_most (wM yX0_most cX0_most 1 (some .int)) (rmD 1) (rP D G [.int (nI k)] [] H0) (rQi (nI (if k = 3 then 3 else 9)) H0) 0 0 (rF H0) := by
  refine ro_start (Qc := fun H0 => (rQi (nI (if k = 3 then 3 else 9)) H0)) (by decide) (Nat.le_of_ble_eq_true rfl) ?_
  intro p e s m args below meth c hx hb hr hts hown hlocks hml hP hK hA hH0 ls hl locs hS
  have hl : lv_has ls 1 [(0, .int (nI k))] := hl
  refine lv_iload_n hx hb dX0_most_0 rfl (lv_at hl 0 rfl) ?_
  refine lv_iconst (v := nI (3)) hx hb dX0_most_1 (by decide) ?_
  refine n_icmp_ne (tgt := 9) hx hb dX0_most_2 (by decide) (by omega) (by omega) (fun c_2 => ?_) (fun c_2 => ?_)
  · refine lv_bipush (v := nI (9)) hx hb dX0_most_9 (by decide) ?_
    exact ro_iret hx hb hr hlocks hS dX0_most_11 (by rw [if_neg (by omega)])
  · refine lv_iconst (v := nI (3)) hx hb dX0_most_5 (by decide) ?_
    refine lv_goto (tgt := 11) hx hb dX0_most_6 (by decide) ?_
    exact ro_iret hx hb hr hlocks hS dX0_most_11 (by rw [if_pos (by omega)])

set_option maxHeartbeats 4000000 in
set_option maxRecDepth 100000 in
theorem c_X0_drinks (l : Launch) (D : va_G) (G : ClassId × ClassId × ClassId) (H0 : Heap) (law w n h : Nat) (hlaw : law < 3240) (hw : w ≤ 60) (hn : n ≤ 4096) (hh : h ≤ 9) : Met l yX0_drinks (wM yX0_drinks cX0_drinks 6 (some .int)) (rmD 2) (rP D G [.int (nI law), .int (nI w), .int (nI n), .int (nI h)] [] H0) (rQi (nI (drk law w n h)) H0) 0 0 (rF H0) := by
  refine ro_start (Qc := fun H0 => (rQi (nI (drk law w n h)) H0)) (by decide) (Nat.le_of_ble_eq_true rfl) ?_
  intro p e s m args below meth c hx hb hr hts hown hlocks hml hP hK hA hH0 ls hl locs hS
  have hl : lv_has ls 6 [(0, .int (nI law)), (1, .int (nI w)), (2, .int (nI n)), (3, .int (nI h))] := hl
  have h0 := lP0 hlaw
  have h1 := lP1 law
  have h2 := lP2 law
  have h3 := lP3 law
  have hAw : lP law 0 * w ≤ 9 * 60 := Nat.mul_le_mul h0.2 hw
  have hTn : lP law 3 * n ≤ 3 * 4096 := Nat.mul_le_mul h3 hn
  refine lv_iload_n hx hb dX0_drinks_0 rfl (lv_at hl 0 rfl) ?_
  refine lv_iconst (v := nI (2)) hx hb dX0_drinks_1 (by decide) ?_
  refine ro_i (roS_run (As := [.int (nI law), .int (nI 2)]) (rest := []) hx hb hml hown hts Tg_M (c_X0_part l D G _ law 2 (hlaw) (by omega)) lk_RX0_9 ⟨rfl, rfl, Nat.le_of_ble_eq_true rfl, Nat.le_of_ble_eq_true rfl⟩ hP hK [] rfl rfl hl rfl (Nat.le_of_ble_eq_true rfl) dX0_drinks_2 ⟨Nat.le_of_ble_eq_true rfl, Nat.le_of_ble_eq_true rfl⟩) hS hA (fun locs hS => ?_)
  refine lv_istore (lv' := [(4, .int (nI (lP law 2))), (0, .int (nI law)), (1, .int (nI w)), (2, .int (nI n)), (3, .int (nI h))]) hx hb dX0_drinks_5 hl (by decide) rfl (fun ls hl => ?_)
  refine lv_iload hx hb dX0_drinks_7 (lv_at hl 0 rfl) ?_
  refine lv_iconst (v := nI (1)) hx hb dX0_drinks_9 (by decide) ?_
  refine n_icmp_ge (tgt := 15) hx hb dX0_drinks_10 (by decide) (by omega) (by omega) (fun c_10 => ?_) (fun c_10 => ?_)
  · refine lv_iload_n hx hb dX0_drinks_15 rfl (lv_at hl 1 rfl) ?_
    refine lv_iconst (v := nI (0)) hx hb dX0_drinks_16 (by decide) ?_
    refine ro_i (roS_run (As := [.int (nI law), .int (nI 0)]) (rest := []) hx hb hml hown hts Tg_M (c_X0_part l D G _ law 0 (hlaw) (by omega)) lk_RX0_9 ⟨rfl, rfl, Nat.le_of_ble_eq_true rfl, Nat.le_of_ble_eq_true rfl⟩ hP hK [] rfl rfl hl rfl (Nat.le_of_ble_eq_true rfl) dX0_drinks_17 ⟨Nat.le_of_ble_eq_true rfl, Nat.le_of_ble_eq_true rfl⟩) hS hA (fun locs hS => ?_)
    refine lv_iload_n hx hb dX0_drinks_20 rfl (lv_at hl 2 rfl) ?_
    refine n_imul hx hb dX0_drinks_21 ?_
    refine lv_iload_n hx hb dX0_drinks_22 rfl (lv_at hl 1 rfl) ?_
    refine lv_iconst (v := nI (3)) hx hb dX0_drinks_23 (by decide) ?_
    refine ro_i (roS_run (As := [.int (nI law), .int (nI 3)]) (rest := [.int (nI ((lP law 0) * w))]) hx hb hml hown hts Tg_M (c_X0_part l D G _ law 3 (hlaw) (by omega)) lk_RX0_9 ⟨rfl, rfl, Nat.le_of_ble_eq_true rfl, Nat.le_of_ble_eq_true rfl⟩ hP hK [] rfl rfl hl rfl (Nat.le_of_ble_eq_true rfl) dX0_drinks_24 ⟨Nat.le_of_ble_eq_true rfl, Nat.le_of_ble_eq_true rfl⟩) hS hA (fun locs hS => ?_)
    refine lv_iload_n hx hb dX0_drinks_27 rfl (lv_at hl 3 rfl) ?_
    refine n_imul hx hb dX0_drinks_28 ?_
    refine lv_isub hx hb dX0_drinks_29 ?_
    refine lv_iconst (v := nI (0)) hx hb dX0_drinks_30 (by decide) ?_
    refine va_mmax hx hb (hml.trans hl.1.symm) hown (hts _ (List.mem_cons_of_mem _ wt_386)) (hts _ (List.mem_cons_of_mem _ wt_84)) (hts _ (List.mem_cons_of_mem _ wt_55)) (hts _ (List.mem_cons_of_mem _ wt_85)) (Nat.le_of_ble_eq_true rfl) (Nat.le_of_ble_eq_true rfl) (Nat.le_of_ble_eq_true rfl) (Nat.le_of_ble_eq_true rfl) dX0_drinks_31 ?_
    refine n_tope (show (if (nI ((lP law 0) * w) - nI ((lP law 3) * n)) < nI (0) then nI (0) else (nI ((lP law 0) * w) - nI ((lP law 3) * n))) = nI (lP law 0 * w - lP law 3 * n) from max0_nI (by omega) (by omega)) ?_
    refine lv_istore (lv' := [(5, .int (nI (lP law 0 * w - lP law 3 * n))), (4, .int (nI (lP law 2))), (0, .int (nI law)), (1, .int (nI w)), (2, .int (nI n)), (3, .int (nI h))]) hx hb dX0_drinks_34 hl (by decide) rfl (fun ls hl => ?_)
    refine lv_iload hx hb dX0_drinks_36 (lv_at hl 0 rfl) ?_
    refine lv_iload_n hx hb dX0_drinks_38 rfl (lv_at hl 2 rfl) ?_
    refine lv_iconst (v := nI (1)) hx hb dX0_drinks_39 (by decide) ?_
    refine ro_i (roS_run (As := [.int (nI law), .int (nI 1)]) (rest := [.int (nI (lP law 0 * w - lP law 3 * n))]) hx hb hml hown hts Tg_M (c_X0_part l D G _ law 1 (hlaw) (by omega)) lk_RX0_9 ⟨rfl, rfl, Nat.le_of_ble_eq_true rfl, Nat.le_of_ble_eq_true rfl⟩ hP hK [] rfl rfl hl rfl (Nat.le_of_ble_eq_true rfl) dX0_drinks_40 ⟨Nat.le_of_ble_eq_true rfl, Nat.le_of_ble_eq_true rfl⟩) hS hA (fun locs hS => ?_)
    refine n_iadd hx hb dX0_drinks_43 ?_
    refine lv_iload_n hx hb dX0_drinks_44 rfl (lv_at hl 5 rfl) ?_
    refine n_iadd hx hb dX0_drinks_45 ?_
    refine lv_iload hx hb dX0_drinks_46 (lv_at hl 1 rfl) ?_
    refine n_idiv hx hb dX0_drinks_48 (by omega) (by omega) (by omega) ?_
    exact ro_iret hx hb hr hlocks hS dX0_drinks_49 (rfl)
  · exact absurd c_10 (by omega)
end
section
abbrev okF (nT nW : Nat) (law wt : Nat → Nat) (q : Nat) (fc : Nat → Nat) (i : Nat) : Prop := fc (6 * i + 0) < nT ∧ fc (6 * i + 1) ≤ q ∧ fc (6 * i + 2) ≤ 9 ∧ fc (6 * i + 3) < nW ∧ fc (6 * i + 4) ≤ 999 ∧ fc (6 * i + 5) ≤ 1 ∧ (fc (6 * i + 5) = 0 → fc (6 * i + 4) = drk (law (fc (6 * i + 0))) (wt (fc (6 * i + 3))) (fc (6 * i + 1)) (fc (6 * i + 2)))
abbrev okN (nT nW : Nat) (law wt : Nat → Nat) (q nl : Nat) (lk : Nat → Nat) (nf : Nat) (fc : Nat → Nat) (h : Nat) : Prop := nl = nT ∧ nf ≤ 12 ∧ h ≤ 9 ∧ (∀ t, t < nT → lk t ≤ q) ∧ ∀ i, i < nf → okF nT nW law wt q fc i
abbrev XI (n : Nat → Nat) (f : Nat → Nat → Nat) (k : Nat → Nat) (q : Nat) : Prop := n 4 ≤ 5 ∧ n 5 ≤ 6 ∧ n 6 ≤ 8 ∧ q ≤ 4000 ∧ (∀ l, l < n 4 → f 4 l ≤ 60) ∧ (∀ t, t < n 5 → f 5 t < 3240) ∧ okN (n 5) (n 4) (f 5) (f 4) q (n 7) (f 7) (n 8) (f 8) (k 5)
abbrev cwP (f : Nat → Nat → Nat) (l w i : Nat) : Prop := f 8 (6 * i + 3) = l → f 8 (6 * i + 5) = 0 → drk (f 5 (f 8 (6 * i + 0))) w (f 8 (6 * i + 1)) (f 8 (6 * i + 2)) = f 8 (6 * i + 4)
def canW (f : Nat → Nat → Nat) (m l w : Nat) : Bool := decide (∀ i, i < m → cwP f l w i)
def upS (p : Nat → Bool) : Nat → Nat → Nat
  | 0, w => w
  | fuel + 1, w => if p w then w else upS p fuel (w + 1)
theorem upS_t {p : Nat → Bool} {w : Nat} (h : p w = true) : ∀ fuel, upS p fuel w = w
  | 0 => rfl
  | fuel + 1 => by rw [upS, h]; rfl
theorem upS_f {p : Nat → Bool} {w : Nat} (h : p w = false) (fuel : Nat) : upS p (fuel + 1) w = upS p fuel (w + 1) := by rw [upS, h]; rfl
def dnS (p : Nat → Bool) : Nat → Nat → Nat
  | 0, w => w
  | fuel + 1, w => if p w then w else dnS p fuel (w - 1)
theorem dnS_t {p : Nat → Bool} {w : Nat} (h : p w = true) : ∀ fuel, dnS p fuel w = w
  | 0 => rfl
  | fuel + 1 => by rw [dnS, h]; rfl
theorem dnS_f {p : Nat → Bool} {w : Nat} (h : p w = false) (fuel : Nat) : dnS p (fuel + 1) w = dnS p fuel (w - 1) := by rw [dnS, h]; rfl
def eoS (c : Nat → Nat) (d : Nat) : Nat → Nat → Nat
  | 0, w => w
  | fuel + 1, w => if c (w + 1) = d then eoS c d fuel (w + 1) else w
theorem eoS_t {c : Nat → Nat} {d w : Nat} (h : c (w + 1) = d) (fuel : Nat) : eoS c d (fuel + 1) w = eoS c d fuel (w + 1) := by rw [eoS, if_pos h]
theorem eoS_f {c : Nat → Nat} {d w : Nat} (h : c (w + 1) ≠ d) (fuel : Nat) : eoS c d fuel w = w := by
  cases fuel with
  | zero => rfl
  | succ n => rw [eoS, if_neg h]
theorem eoS_in (c : Nat → Nat) (d : Nat) : ∀ fuel w, w ≤ eoS c d fuel w ∧ eoS c d fuel w ≤ w + fuel
  | 0, w => ⟨Nat.le_refl _, Nat.le_refl _⟩
  | fuel + 1, w => by
    have h := eoS_in c d fuel (w + 1)
    rw [eoS]
    split
    · omega
    · omega
def lwS (c : Nat → Nat) (hi : Nat) : Nat → Nat → Nat → Nat
  | 0, _, most => most
  | fuel + 1, fr, most => if fr ≤ hi then lwS c hi fuel (eoS c (c fr) (hi - fr) fr + 1) (Nat.max most (eoS c (c fr) (hi - fr) fr - fr + 1)) else most
def loP (p : Nat → Bool) : Nat := upS p 60 0
def hiP (p : Nat → Bool) : Nat := dnS p 60 60
theorem upS_le (p : Nat → Bool) : ∀ fuel w, upS p fuel w ≤ w + fuel
  | 0, w => Nat.le_refl _
  | fuel + 1, w => by
    have h := upS_le p fuel (w + 1)
    rw [upS]; split <;> omega
theorem dnS_le (p : Nat → Bool) : ∀ fuel w, dnS p fuel w ≤ w
  | 0, w => Nat.le_refl _
  | fuel + 1, w => by
    have h := dnS_le p fuel (w - 1)
    rw [dnS]; split <;> omega
theorem loP_le (p : Nat → Bool) : loP p ≤ 60 := by have := upS_le p 60 0; unfold loP; omega
theorem hiP_le (p : Nat → Bool) : hiP p ≤ 60 := dnS_le p 60 60

theorem drk_lt {law w n h : Nat} (hl : law < 3240) (hw : w ≤ 60) (hn : n ≤ 4096) (hh : h ≤ 9) : drk law w n h ≤ 558 := by
  have h0 := lP0 hl
  have h1 := lP1 law
  have hA : lP law 0 * w ≤ 9 * 60 := Nat.mul_le_mul h0.2 hw
  have h5 : drk law w n h ≤ lP law 0 * w - lP law 3 * n + lP law 1 + h := Nat.div_le_self _ _
  omega
end
section
set_option maxHeartbeats 4000000 in
set_option maxRecDepth 100000 in
theorem c_X4_isWithin (l : Launch) (D : va_G) (G : ClassId × ClassId × ClassId) (H0 : Heap) (x lo hi : Int32)  : Met l yX4_isWithin (wM yX4_isWithin cX4_isWithin 3 (some .boolean)) (rmD 1) (rP D G [.int (x), .int (lo), .int (hi)] [] H0) (rQi (bI (inR x lo hi)) H0) 0 0 (rF H0) := by
  refine ro_start (Qc := fun H0 => (rQi (bI (inR x lo hi)) H0)) (by decide) (Nat.le_of_ble_eq_true rfl) ?_
  intro p e s m args below meth c hx hb hr hts hown hlocks hml hP hK hA hH0 ls hl locs hS
  have hl : lv_has ls 3 [(0, .int (x)), (1, .int (lo)), (2, .int (hi))] := hl
  refine lv_iload_n hx hb dX4_isWithin_0 rfl (lv_at hl 0 rfl) ?_
  refine lv_iload_n hx hb dX4_isWithin_1 rfl (lv_at hl 1 rfl) ?_
  refine lv_icmp_lt (tgt := 14) hx hb dX4_isWithin_2 (by decide) (fun c_2 => ?_) (fun c_2 => ?_)
  · refine lv_iconst (v := nI (0)) hx hb dX4_isWithin_14 (by decide) ?_
    exact ro_zret hx hb hr hlocks hS dX4_isWithin_15 (rfl) (bI_of_f (decide_eq_false (fun q => absurd q.1 (Int32.not_le.mpr c_2))))
  · refine lv_iload_n hx hb dX4_isWithin_5 rfl (lv_at hl 0 rfl) ?_
    refine lv_iload_n hx hb dX4_isWithin_6 rfl (lv_at hl 2 rfl) ?_
    refine lv_icmp_gt (tgt := 14) hx hb dX4_isWithin_7 (by decide) (fun c_7 => ?_) (fun c_7 => ?_)
    · refine lv_iconst (v := nI (0)) hx hb dX4_isWithin_14 (by decide) ?_
      exact ro_zret hx hb hr hlocks hS dX4_isWithin_15 (rfl) (bI_of_f (decide_eq_false (fun q => absurd q.2 (Int32.not_le.mpr c_7))))
    · refine lv_iconst (v := nI (1)) hx hb dX4_isWithin_10 (by decide) ?_
      refine lv_goto (tgt := 15) hx hb dX4_isWithin_11 (by decide) ?_
      exact ro_zret hx hb hr hlocks hS dX4_isWithin_15 (rfl) (bI_of_t (decide_eq_true ⟨Int32.not_lt.mp c_2, Int32.not_lt.mp c_7⟩))

set_option maxHeartbeats 4000000 in
set_option maxRecDepth 100000 in
theorem c_X4_isWeight (l : Launch) (D : va_G) (G : ClassId × ClassId × ClassId) (H0 : Heap) (x : Int32)  : Met l yX4_isWeight (wM yX4_isWeight cX4_isWeight 1 (some .boolean)) (rmD 2) (rP D G [.int (x)] [] H0) (rQi (bI (inR x (nI (0)) (nI (60)))) H0) 0 0 (rF H0) := by
  refine ro_start (Qc := fun H0 => (rQi (bI (inR x (nI (0)) (nI (60)))) H0)) (by decide) (Nat.le_of_ble_eq_true rfl) ?_
  intro p e s m args below meth c hx hb hr hts hown hlocks hml hP hK hA hH0 ls hl locs hS
  have hl : lv_has ls 1 [(0, .int (x))] := hl
  refine lv_iload_n hx hb dX4_isWeight_0 rfl (lv_at hl 0 rfl) ?_
  refine lv_iconst (v := nI (0)) hx hb dX4_isWeight_1 (by decide) ?_
  refine lv_bipush (v := nI (60)) hx hb dX4_isWeight_2 (by decide) ?_
  refine ro_i (roS_run (As := [.int (x), .int (nI 0), .int (nI 60)]) (rest := []) hx hb hml hown hts Tg_M (c_X4_isWithin l D G _ (x) (nI (0)) (nI (60))) lk_RX4_55 ⟨rfl, rfl, Nat.le_of_ble_eq_true rfl, Nat.le_of_ble_eq_true rfl⟩ hP hK [] rfl rfl hl rfl (Nat.le_of_ble_eq_true rfl) dX4_isWeight_4 ⟨Nat.le_of_ble_eq_true rfl, Nat.le_of_ble_eq_true rfl⟩) hS hA (fun locs hS => ?_)
  exact ro_zret hx hb hr hlocks hS dX4_isWeight_7 (narrow_bI _) (rfl)

set_option maxHeartbeats 4000000 in
set_option maxRecDepth 100000 in
theorem c_X4_isLoad (l : Launch) (D : va_G) (G : ClassId × ClassId × ClassId) (H0 : Heap) (ad n : Nat → Nat) (f : Nat → Nat → Nat) (k : Nat → Nat) (b : Nat → Bool) (tr : Int64) (i : Int32)  : Met l yX4_isLoad (wM yX4_isLoad cX4_isLoad 2 (some .boolean)) (rmD 2) (rP D G [.ref (ad 0), .int (i)] [(ad 0, .inr (3, [.ref (ad 1), .ref (ad 10), .ref (ad 12), .ref (ad 14), .ref (ad 16), .ref (ad 21), .ref (ad 26), .int (bI (b 1)), .int (bI (b 2)), .long (tr)])), (ad 10, .inr (2, [.ref (ad 11), .int (nI (n 4))])), (ad 11, .inl (G.1, 5, .inl (nF (f 4))))] H0) (rQi (bI (hasB i (n 4))) H0) 0 0 (rF H0) := by
  refine ro_start (Qc := fun H0 => (rQi (bI (hasB i (n 4))) H0)) (by decide) (Nat.le_of_ble_eq_true rfl) ?_
  intro p e s m args below meth c hx hb hr hts hown hlocks hml hP hK hA hH0 ls hl locs hS
  have hl : lv_has ls 2 [(0, .ref (ad 0)), (1, .int (i))] := hl
  refine lv_aload_n hx hb dX4_isLoad_0 rfl (lv_at hl 0 rfl) ?_
  refine va_get (D := D) (ci := 3) (v := .ref (ad 10)) (C := RX4) (T := TX4) (N := 10) hx hb hts (iX4) hown hK hP 0 rfl rfl 1 (by decide) (hts _ (List.mem_cons_of_mem _ wt_157)) (fun _ h9 => h9) rfl dX4_isLoad_1 ?_
  refine lv_iload_n hx hb dX4_isLoad_4 rfl (lv_at hl 1 rfl) ?_
  refine ro_i (roV_run (As := [.int (i)]) (rest := []) hx hb hml hown hts Tg_M (c_X3_has l D G _ (ad 10) (ad 11) 5 (n 4) (f 4) (i)) lk_RX4_210 ⟨rfl, rfl, Nat.le_of_ble_eq_true rfl, Nat.le_of_ble_eq_true rfl⟩ hP hK [1, 2] rfl 1 2 rfl rfl rfl rfl hl rfl (Nat.le_of_ble_eq_true rfl) dX4_isLoad_5 ⟨Nat.le_of_ble_eq_true rfl, Nat.le_of_ble_eq_true rfl⟩) hS hA (fun locs hS => ?_)
  exact ro_zret hx hb hr hlocks hS dX4_isLoad_8 (narrow_bI _) (rfl)

set_option maxHeartbeats 4000000 in
set_option maxRecDepth 100000 in
theorem c_X4_isTaster (l : Launch) (D : va_G) (G : ClassId × ClassId × ClassId) (H0 : Heap) (ad n : Nat → Nat) (f : Nat → Nat → Nat) (k : Nat → Nat) (b : Nat → Bool) (tr : Int64) (i : Int32)  : Met l yX4_isTaster (wM yX4_isTaster cX4_isTaster 2 (some .boolean)) (rmD 2) (rP D G [.ref (ad 0), .int (i)] [(ad 0, .inr (3, [.ref (ad 1), .ref (ad 10), .ref (ad 12), .ref (ad 14), .ref (ad 16), .ref (ad 21), .ref (ad 26), .int (bI (b 1)), .int (bI (b 2)), .long (tr)])), (ad 12, .inr (2, [.ref (ad 13), .int (nI (n 5))])), (ad 13, .inl (G.1, 6, .inl (nF (f 5))))] H0) (rQi (bI (hasB i (n 5))) H0) 0 0 (rF H0) := by
  refine ro_start (Qc := fun H0 => (rQi (bI (hasB i (n 5))) H0)) (by decide) (Nat.le_of_ble_eq_true rfl) ?_
  intro p e s m args below meth c hx hb hr hts hown hlocks hml hP hK hA hH0 ls hl locs hS
  have hl : lv_has ls 2 [(0, .ref (ad 0)), (1, .int (i))] := hl
  refine lv_aload_n hx hb dX4_isTaster_0 rfl (lv_at hl 0 rfl) ?_
  refine va_get (D := D) (ci := 3) (v := .ref (ad 12)) (C := RX4) (T := TX4) (N := 10) hx hb hts (iX4) hown hK hP 0 rfl rfl 2 (by decide) (hts _ (List.mem_cons_of_mem _ wt_158)) (fun _ h9 => h9) rfl dX4_isTaster_1 ?_
  refine lv_iload_n hx hb dX4_isTaster_4 rfl (lv_at hl 1 rfl) ?_
  refine ro_i (roV_run (As := [.int (i)]) (rest := []) hx hb hml hown hts Tg_M (c_X3_has l D G _ (ad 12) (ad 13) 6 (n 5) (f 5) (i)) lk_RX4_210 ⟨rfl, rfl, Nat.le_of_ble_eq_true rfl, Nat.le_of_ble_eq_true rfl⟩ hP hK [1, 2] rfl 1 2 rfl rfl rfl rfl hl rfl (Nat.le_of_ble_eq_true rfl) dX4_isTaster_5 ⟨Nat.le_of_ble_eq_true rfl, Nat.le_of_ble_eq_true rfl⟩) hS hA (fun locs hS => ?_)
  exact ro_zret hx hb hr hlocks hS dX4_isTaster_8 (narrow_bI _) (rfl)

set_option maxHeartbeats 4000000 in
set_option maxRecDepth 100000 in
theorem c_X4_isTasting (l : Launch) (D : va_G) (G : ClassId × ClassId × ClassId) (H0 : Heap) (x y z : Int32)  : Met l yX4_isTasting (wM yX4_isTasting cX4_isTasting 3 (some .boolean)) (rmD 3) (rP D G [.int (x), .int (y), .int (z)] [] H0) (rQi (bI (inR x (nI (0)) (nI (60)) && inR y (nI (0)) (nI (9)) && inR z (nI (0)) (nI (9)))) H0) 0 0 (rF H0) := by
  refine ro_start (Qc := fun H0 => (rQi (bI (inR x (nI (0)) (nI (60)) && inR y (nI (0)) (nI (9)) && inR z (nI (0)) (nI (9)))) H0)) (by decide) (Nat.le_of_ble_eq_true rfl) ?_
  intro p e s m args below meth c hx hb hr hts hown hlocks hml hP hK hA hH0 ls hl locs hS
  have hl : lv_has ls 3 [(0, .int (x)), (1, .int (y)), (2, .int (z))] := hl
  refine lv_iload_n hx hb dX4_isTasting_0 rfl (lv_at hl 0 rfl) ?_
  refine ro_i (roS_run (As := [.int (x)]) (rest := []) hx hb hml hown hts Tg_M (c_X4_isWeight l D G _ (x)) lk_RX4_118 ⟨rfl, rfl, Nat.le_of_ble_eq_true rfl, Nat.le_of_ble_eq_true rfl⟩ hP hK [] rfl rfl hl rfl (Nat.le_of_ble_eq_true rfl) dX4_isTasting_1 ⟨Nat.le_of_ble_eq_true rfl, Nat.le_of_ble_eq_true rfl⟩) hS hA (fun locs hS => ?_)
  refine b_if_eq (tgt := 31) hx hb dX4_isTasting_4 (by decide) (fun c_4 => ?_) (fun c_4 => ?_)
  · refine lv_iconst (v := nI (0)) hx hb dX4_isTasting_31 (by decide) ?_
    exact ro_zret hx hb hr hlocks hS dX4_isTasting_32 (rfl) (bI_of_f (by rw [c_4]; simp))
  · refine lv_iload_n hx hb dX4_isTasting_7 rfl (lv_at hl 1 rfl) ?_
    refine lv_iconst (v := nI (0)) hx hb dX4_isTasting_8 (by decide) ?_
    refine lv_bipush (v := nI (9)) hx hb dX4_isTasting_9 (by decide) ?_
    refine ro_i (roS_run (As := [.int (y), .int (nI 0), .int (nI 9)]) (rest := []) hx hb hml hown hts Tg_M (c_X4_isWithin l D G _ (y) (nI (0)) (nI (9))) lk_RX4_55 ⟨rfl, rfl, Nat.le_of_ble_eq_true rfl, Nat.le_of_ble_eq_true rfl⟩ hP hK [] rfl rfl hl rfl (Nat.le_of_ble_eq_true rfl) dX4_isTasting_11 ⟨Nat.le_of_ble_eq_true rfl, Nat.le_of_ble_eq_true rfl⟩) hS hA (fun locs hS => ?_)
    refine b_if_eq (tgt := 31) hx hb dX4_isTasting_14 (by decide) (fun c_14 => ?_) (fun c_14 => ?_)
    · refine lv_iconst (v := nI (0)) hx hb dX4_isTasting_31 (by decide) ?_
      exact ro_zret hx hb hr hlocks hS dX4_isTasting_32 (rfl) (bI_of_f (by rw [c_14]; simp))
    · refine lv_iload_n hx hb dX4_isTasting_17 rfl (lv_at hl 2 rfl) ?_
      refine lv_iconst (v := nI (0)) hx hb dX4_isTasting_18 (by decide) ?_
      refine lv_bipush (v := nI (9)) hx hb dX4_isTasting_19 (by decide) ?_
      refine ro_i (roS_run (As := [.int (z), .int (nI 0), .int (nI 9)]) (rest := []) hx hb hml hown hts Tg_M (c_X4_isWithin l D G _ (z) (nI (0)) (nI (9))) lk_RX4_55 ⟨rfl, rfl, Nat.le_of_ble_eq_true rfl, Nat.le_of_ble_eq_true rfl⟩ hP hK [] rfl rfl hl rfl (Nat.le_of_ble_eq_true rfl) dX4_isTasting_21 ⟨Nat.le_of_ble_eq_true rfl, Nat.le_of_ble_eq_true rfl⟩) hS hA (fun locs hS => ?_)
      refine b_if_eq (tgt := 31) hx hb dX4_isTasting_24 (by decide) (fun c_24 => ?_) (fun c_24 => ?_)
      · refine lv_iconst (v := nI (0)) hx hb dX4_isTasting_31 (by decide) ?_
        exact ro_zret hx hb hr hlocks hS dX4_isTasting_32 (rfl) (bI_of_f (by rw [c_24]; simp))
      · refine lv_iconst (v := nI (1)) hx hb dX4_isTasting_27 (by decide) ?_
        refine lv_goto (tgt := 32) hx hb dX4_isTasting_28 (by decide) ?_
        exact ro_zret hx hb hr hlocks hS dX4_isTasting_32 (rfl) (bI_of_t (by rw [c_4, c_14, c_24]; rfl))

set_option maxHeartbeats 4000000 in
set_option maxRecDepth 100000 in
theorem c_X4_facts (l : Launch) (D : va_G) (G : ClassId × ClassId × ClassId) (H0 : Heap) (ad n : Nat → Nat) (f : Nat → Nat → Nat) (k : Nat → Nat) (b : Nat → Bool) (tr : Int64) (h8 : n 8 ≤ 12) : Met l yX4_facts (wM yX4_facts cX4_facts 1 (some .int)) (rmD 2) (rP D G [.ref (ad 0)] [(ad 0, .inr (3, [.ref (ad 1), .ref (ad 10), .ref (ad 12), .ref (ad 14), .ref (ad 16), .ref (ad 21), .ref (ad 26), .int (bI (b 1)), .int (bI (b 2)), .long (tr)])), (ad 16, .inr (0, [.ref (ad 17), .ref (ad 19), .int (nI (k 5))])), (ad 19, .inr (2, [.ref (ad 20), .int (nI (6 * n 8))])), (ad 20, .inl (G.1, 72, .inl (nF (f 8))))] H0) (rQi (nI (n 8)) H0) 0 0 (rF H0) := by
  refine ro_start (Qc := fun H0 => (rQi (nI (n 8)) H0)) (by decide) (Nat.le_of_ble_eq_true rfl) ?_
  intro p e s m args below meth c hx hb hr hts hown hlocks hml hP hK hA hH0 ls hl locs hS
  have hl : lv_has ls 1 [(0, .ref (ad 0))] := hl
  refine lv_aload_n hx hb dX4_facts_0 rfl (lv_at hl 0 rfl) ?_
  refine va_get (D := D) (ci := 3) (v := .ref (ad 16)) (C := RX4) (T := TX4) (N := 10) hx hb hts (iX4) hown hK hP 0 rfl rfl 4 (by decide) (hts _ (List.mem_cons_of_mem _ wt_160)) (fun _ h9 => h9) rfl dX4_facts_1 ?_
  refine va_get (D := D) (ci := 0) (v := .ref (ad 19)) (C := RX1) (T := TX1) (N := 3) hx hb hts (iX1) hown hK hP 1 rfl rfl 1 (by decide) (hts _ (List.mem_cons_of_mem _ wt_146)) (fun _ h9 => h9) rfl dX4_facts_4 ?_
  refine ro_i (roV_run (As := []) (rest := []) hx hb hml hown hts Tg_M (c_X3_size l D G _ (ad 19) (ad 20) 72 (6 * n 8) (f 8)) lk_RX4_62 ⟨rfl, rfl, Nat.le_of_ble_eq_true rfl, Nat.le_of_ble_eq_true rfl⟩ hP hK [2, 3] rfl 2 2 rfl rfl rfl rfl hl rfl (Nat.le_of_ble_eq_true rfl) dX4_facts_7 ⟨Nat.le_of_ble_eq_true rfl, Nat.le_of_ble_eq_true rfl⟩) hS hA (fun locs hS => ?_)
  refine lv_bipush (v := nI (6)) hx hb dX4_facts_10 (by decide) ?_
  refine n_idiv hx hb dX4_facts_12 (by omega) (by omega) (by omega) ?_
  refine n_tope (show nI ((6 * n 8) / 6) = nI (n 8) from by rw [Nat.mul_div_cancel_left _ (by decide)]) ?_
  exact ro_iret hx hb hr hlocks hS dX4_facts_13 (rfl)

set_option maxHeartbeats 4000000 in
set_option maxRecDepth 100000 in
theorem c_X4_fact (l : Launch) (D : va_G) (G : ClassId × ClassId × ClassId) (H0 : Heap) (ad n : Nat → Nat) (f : Nat → Nat → Nat) (k : Nat → Nat) (b : Nat → Bool) (tr : Int64) (i pt : Nat) (h8 : n 8 ≤ 12) (hi : i < n 8) (hc : pt < 6) : Met l yX4_fact (wM yX4_fact cX4_fact 3 (some .int)) (rmD 2) (rP D G [.ref (ad 0), .int (nI i), .int (nI pt)] [(ad 0, .inr (3, [.ref (ad 1), .ref (ad 10), .ref (ad 12), .ref (ad 14), .ref (ad 16), .ref (ad 21), .ref (ad 26), .int (bI (b 1)), .int (bI (b 2)), .long (tr)])), (ad 16, .inr (0, [.ref (ad 17), .ref (ad 19), .int (nI (k 5))])), (ad 19, .inr (2, [.ref (ad 20), .int (nI (6 * n 8))])), (ad 20, .inl (G.1, 72, .inl (nF (f 8))))] H0) (rQi (nI (f 8 (6 * i + pt))) H0) 0 0 (rF H0) := by
  refine ro_start (Qc := fun H0 => (rQi (nI (f 8 (6 * i + pt))) H0)) (by decide) (Nat.le_of_ble_eq_true rfl) ?_
  intro p e s m args below meth c hx hb hr hts hown hlocks hml hP hK hA hH0 ls hl locs hS
  have hl : lv_has ls 3 [(0, .ref (ad 0)), (1, .int (nI i)), (2, .int (nI pt))] := hl
  refine lv_aload_n hx hb dX4_fact_0 rfl (lv_at hl 0 rfl) ?_
  refine va_get (D := D) (ci := 3) (v := .ref (ad 16)) (C := RX4) (T := TX4) (N := 10) hx hb hts (iX4) hown hK hP 0 rfl rfl 4 (by decide) (hts _ (List.mem_cons_of_mem _ wt_160)) (fun _ h9 => h9) rfl dX4_fact_1 ?_
  refine va_get (D := D) (ci := 0) (v := .ref (ad 19)) (C := RX1) (T := TX1) (N := 3) hx hb hts (iX1) hown hK hP 1 rfl rfl 1 (by decide) (hts _ (List.mem_cons_of_mem _ wt_146)) (fun _ h9 => h9) rfl dX4_fact_4 ?_
  refine lv_iload_n hx hb dX4_fact_7 rfl (lv_at hl 1 rfl) ?_
  refine lv_bipush (v := nI (6)) hx hb dX4_fact_8 (by decide) ?_
  refine n_imul hx hb dX4_fact_10 ?_
  refine lv_iload_n hx hb dX4_fact_11 rfl (lv_at hl 2 rfl) ?_
  refine n_iadd hx hb dX4_fact_12 ?_
  refine ro_i (roV_run (As := [.int (nI ((i * 6) + pt))]) (rest := []) hx hb hml hown hts Tg_M (c_X3_at l D G _ (ad 19) (ad 20) 72 (6 * n 8) (f 8) ((i * 6) + pt) (by omega) (by omega) (by omega)) lk_RX4_102 ⟨rfl, rfl, Nat.le_of_ble_eq_true rfl, Nat.le_of_ble_eq_true rfl⟩ hP hK [2, 3] rfl 2 2 rfl rfl rfl rfl hl rfl (Nat.le_of_ble_eq_true rfl) dX4_fact_13 ⟨Nat.le_of_ble_eq_true rfl, Nat.le_of_ble_eq_true rfl⟩) hS hA (fun locs hS => ?_)
  refine n_tope (show nI ((f 8) ((i * 6) + pt)) = nI (f 8 (6 * i + pt)) from by rw [Nat.mul_comm i 6]) ?_
  exact ro_iret hx hb hr hlocks hS dX4_fact_16 (rfl)

set_option maxHeartbeats 4000000 in
set_option maxRecDepth 100000 in
theorem c_X4_thirst (l : Launch) (D : va_G) (G : ClassId × ClassId × ClassId) (H0 : Heap) (ad n : Nat → Nat) (f : Nat → Nat → Nat) (k : Nat → Nat) (b : Nat → Bool) (tr : Int64) (q t j : Nat) (hI : XI n f k q) (ht : t < n 5) (hj : j < n 4) : Met l yX4_thirst (wM yX4_thirst cX4_thirst 3 (some .int)) (rmD 3) (rP D G [.ref (ad 0), .int (nI t), .int (nI j)] [(ad 0, .inr (3, [.ref (ad 1), .ref (ad 10), .ref (ad 12), .ref (ad 14), .ref (ad 16), .ref (ad 21), .ref (ad 26), .int (bI (b 1)), .int (bI (b 2)), .long (tr)])), (ad 10, .inr (2, [.ref (ad 11), .int (nI (n 4))])), (ad 11, .inl (G.1, 5, .inl (nF (f 4)))), (ad 12, .inr (2, [.ref (ad 13), .int (nI (n 5))])), (ad 13, .inl (G.1, 6, .inl (nF (f 5)))), (ad 16, .inr (0, [.ref (ad 17), .ref (ad 19), .int (nI (k 5))])), (ad 17, .inr (2, [.ref (ad 18), .int (nI (n 7))])), (ad 18, .inl (G.1, 6, .inl (nF (f 7))))] H0) (rQi (nI (drk (f 5 t) (f 4 j) (f 7 t) (k 5))) H0) 0 0 (rF H0) := by
  refine ro_start (Qc := fun H0 => (rQi (nI (drk (f 5 t) (f 4 j) (f 7 t) (k 5))) H0)) (by decide) (Nat.le_of_ble_eq_true rfl) ?_
  intro p e s m args below meth c hx hb hr hts hown hlocks hml hP hK hA hH0 ls hl locs hS
  have hl : lv_has ls 3 [(0, .ref (ad 0)), (1, .int (nI t)), (2, .int (nI j))] := hl
  obtain ⟨i4, i5, i6, iq, iw, il, i7, i8, ih9, ik, iF⟩ := hI
  have e1 := il t ht
  have e2 := iw j hj
  have e3 := ik t ht
  refine lv_aload_n hx hb dX4_thirst_0 rfl (lv_at hl 0 rfl) ?_
  refine va_get (D := D) (ci := 3) (v := .ref (ad 12)) (C := RX4) (T := TX4) (N := 10) hx hb hts (iX4) hown hK hP 0 rfl rfl 2 (by decide) (hts _ (List.mem_cons_of_mem _ wt_158)) (fun _ h9 => h9) rfl dX4_thirst_1 ?_
  refine lv_iload_n hx hb dX4_thirst_4 rfl (lv_at hl 1 rfl) ?_
  refine ro_i (roV_run (As := [.int (nI t)]) (rest := []) hx hb hml hown hts Tg_M (c_X3_at l D G _ (ad 12) (ad 13) 6 (n 5) (f 5) t (by omega) (by omega) (by omega)) lk_RX4_102 ⟨rfl, rfl, Nat.le_of_ble_eq_true rfl, Nat.le_of_ble_eq_true rfl⟩ hP hK [3, 4] rfl 3 2 rfl rfl rfl rfl hl rfl (Nat.le_of_ble_eq_true rfl) dX4_thirst_5 ⟨Nat.le_of_ble_eq_true rfl, Nat.le_of_ble_eq_true rfl⟩) hS hA (fun locs hS => ?_)
  refine lv_aload_n hx hb dX4_thirst_8 rfl (lv_at hl 0 rfl) ?_
  refine va_get (D := D) (ci := 3) (v := .ref (ad 10)) (C := RX4) (T := TX4) (N := 10) hx hb hts (iX4) hown hK hP 0 rfl rfl 1 (by decide) (hts _ (List.mem_cons_of_mem _ wt_157)) (fun _ h9 => h9) rfl dX4_thirst_9 ?_
  refine lv_iload_n hx hb dX4_thirst_12 rfl (lv_at hl 2 rfl) ?_
  refine ro_i (roV_run (As := [.int (nI j)]) (rest := [.int (nI ((f 5) t))]) hx hb hml hown hts Tg_M (c_X3_at l D G _ (ad 10) (ad 11) 5 (n 4) (f 4) j (by omega) (by omega) (by omega)) lk_RX4_102 ⟨rfl, rfl, Nat.le_of_ble_eq_true rfl, Nat.le_of_ble_eq_true rfl⟩ hP hK [1, 2] rfl 1 2 rfl rfl rfl rfl hl rfl (Nat.le_of_ble_eq_true rfl) dX4_thirst_13 ⟨Nat.le_of_ble_eq_true rfl, Nat.le_of_ble_eq_true rfl⟩) hS hA (fun locs hS => ?_)
  refine lv_aload_n hx hb dX4_thirst_16 rfl (lv_at hl 0 rfl) ?_
  refine va_get (D := D) (ci := 3) (v := .ref (ad 16)) (C := RX4) (T := TX4) (N := 10) hx hb hts (iX4) hown hK hP 0 rfl rfl 4 (by decide) (hts _ (List.mem_cons_of_mem _ wt_160)) (fun _ h9 => h9) rfl dX4_thirst_17 ?_
  refine va_get (D := D) (ci := 0) (v := .ref (ad 17)) (C := RX1) (T := TX1) (N := 3) hx hb hts (iX1) hown hK hP 5 rfl rfl 0 (by decide) (hts _ (List.mem_cons_of_mem _ wt_144)) (fun _ h9 => h9) rfl dX4_thirst_20 ?_
  refine lv_iload_n hx hb dX4_thirst_23 rfl (lv_at hl 1 rfl) ?_
  refine ro_i (roV_run (As := [.int (nI t)]) (rest := [.int (nI ((f 4) j)), .int (nI ((f 5) t))]) hx hb hml hown hts Tg_M (c_X3_at l D G _ (ad 17) (ad 18) 6 (n 7) (f 7) t (by omega) (by omega) (by omega)) lk_RX4_102 ⟨rfl, rfl, Nat.le_of_ble_eq_true rfl, Nat.le_of_ble_eq_true rfl⟩ hP hK [6, 7] rfl 6 2 rfl rfl rfl rfl hl rfl (Nat.le_of_ble_eq_true rfl) dX4_thirst_24 ⟨Nat.le_of_ble_eq_true rfl, Nat.le_of_ble_eq_true rfl⟩) hS hA (fun locs hS => ?_)
  refine lv_aload_n hx hb dX4_thirst_27 rfl (lv_at hl 0 rfl) ?_
  refine va_get (D := D) (ci := 3) (v := .ref (ad 16)) (C := RX4) (T := TX4) (N := 10) hx hb hts (iX4) hown hK hP 0 rfl rfl 4 (by decide) (hts _ (List.mem_cons_of_mem _ wt_160)) (fun _ h9 => h9) rfl dX4_thirst_28 ?_
  refine va_get (D := D) (ci := 0) (v := .int (nI (k 5))) (C := RX1) (T := TX1) (N := 3) hx hb hts (iX1) hown hK hP 5 rfl rfl 2 (by decide) (hts _ (List.mem_cons_of_mem _ wt_148)) (fun _ h9 => h9) rfl dX4_thirst_31 ?_
  refine ro_i (roS_run (As := [.int (nI ((f 5) t)), .int (nI ((f 4) j)), .int (nI ((f 7) t)), .int (nI (k 5))]) (rest := []) hx hb hml hown hts Tg_M (c_X0_drinks l D G _ ((f 5) t) ((f 4) j) ((f 7) t) (k 5) (by omega) (by omega) (by omega) (by omega)) lk_RX4_122 ⟨rfl, rfl, Nat.le_of_ble_eq_true rfl, Nat.le_of_ble_eq_true rfl⟩ hP hK [] rfl rfl hl rfl (Nat.le_of_ble_eq_true rfl) dX4_thirst_34 ⟨Nat.le_of_ble_eq_true rfl, Nat.le_of_ble_eq_true rfl⟩) hS hA (fun locs hS => ?_)
  exact ro_iret hx hb hr hlocks hS dX4_thirst_37 (rfl)

set_option maxHeartbeats 4000000 in
set_option maxRecDepth 100000 in
theorem c_X4_drinksIn (l : Launch) (D : va_G) (G : ClassId × ClassId × ClassId) (H0 : Heap) (ad n : Nat → Nat) (f : Nat → Nat → Nat) (k : Nat → Nat) (b : Nat → Bool) (tr : Int64) (q i w : Nat) (hI : XI n f k q) (hi : i < n 8) (hw : w ≤ 60) : Met l yX4_drinksIn (wM yX4_drinksIn cX4_drinksIn 3 (some .int)) (rmD 3) (rP D G [.ref (ad 0), .int (nI i), .int (nI w)] [(ad 0, .inr (3, [.ref (ad 1), .ref (ad 10), .ref (ad 12), .ref (ad 14), .ref (ad 16), .ref (ad 21), .ref (ad 26), .int (bI (b 1)), .int (bI (b 2)), .long (tr)])), (ad 12, .inr (2, [.ref (ad 13), .int (nI (n 5))])), (ad 13, .inl (G.1, 6, .inl (nF (f 5)))), (ad 16, .inr (0, [.ref (ad 17), .ref (ad 19), .int (nI (k 5))])), (ad 19, .inr (2, [.ref (ad 20), .int (nI (6 * n 8))])), (ad 20, .inl (G.1, 72, .inl (nF (f 8))))] H0) (rQi (nI (drk (f 5 (f 8 (6 * i + 0))) w (f 8 (6 * i + 1)) (f 8 (6 * i + 2)))) H0) 0 0 (rF H0) := by
  refine ro_start (Qc := fun H0 => (rQi (nI (drk (f 5 (f 8 (6 * i + 0))) w (f 8 (6 * i + 1)) (f 8 (6 * i + 2)))) H0)) (by decide) (Nat.le_of_ble_eq_true rfl) ?_
  intro p e s m args below meth c hx hb hr hts hown hlocks hml hP hK hA hH0 ls hl locs hS
  have hl : lv_has ls 3 [(0, .ref (ad 0)), (1, .int (nI i)), (2, .int (nI w))] := hl
  obtain ⟨i4, i5, i6, iq, iw, il, i7, i8, ih9, ik, iF⟩ := hI
  have e0 := iF i hi
  have e1 := il _ e0.1
  refine lv_aload_n hx hb dX4_drinksIn_0 rfl (lv_at hl 0 rfl) ?_
  refine va_get (D := D) (ci := 3) (v := .ref (ad 12)) (C := RX4) (T := TX4) (N := 10) hx hb hts (iX4) hown hK hP 0 rfl rfl 2 (by decide) (hts _ (List.mem_cons_of_mem _ wt_158)) (fun _ h9 => h9) rfl dX4_drinksIn_1 ?_
  refine lv_aload_n hx hb dX4_drinksIn_4 rfl (lv_at hl 0 rfl) ?_
  refine lv_iload_n hx hb dX4_drinksIn_5 rfl (lv_at hl 1 rfl) ?_
  refine lv_iconst (v := nI (0)) hx hb dX4_drinksIn_6 (by decide) ?_
  refine ro_i (roV_run (As := [.int (nI i), .int (nI 0)]) (rest := [.ref (ad 12)]) hx hb hml hown hts Tg_M (c_X4_fact l D G _ ad n f k b tr i 0 (by omega) (by omega) (by omega)) lk_RX4_147 ⟨rfl, rfl, Nat.le_of_ble_eq_true rfl, Nat.le_of_ble_eq_true rfl⟩ hP hK [0, 3, 4, 5] rfl 0 3 rfl rfl rfl rfl hl rfl (Nat.le_of_ble_eq_true rfl) dX4_drinksIn_7 ⟨Nat.le_of_ble_eq_true rfl, Nat.le_of_ble_eq_true rfl⟩) hS hA (fun locs hS => ?_)
  refine ro_i (roV_run (As := [.int (nI (f 8 (6 * i + 0)))]) (rest := []) hx hb hml hown hts Tg_M (c_X3_at l D G _ (ad 12) (ad 13) 6 (n 5) (f 5) (f 8 (6 * i + 0)) (by omega) (by omega) (by omega)) lk_RX4_102 ⟨rfl, rfl, Nat.le_of_ble_eq_true rfl, Nat.le_of_ble_eq_true rfl⟩ hP hK [1, 2] rfl 1 2 rfl rfl rfl rfl hl rfl (Nat.le_of_ble_eq_true rfl) dX4_drinksIn_10 ⟨Nat.le_of_ble_eq_true rfl, Nat.le_of_ble_eq_true rfl⟩) hS hA (fun locs hS => ?_)
  refine lv_iload_n hx hb dX4_drinksIn_13 rfl (lv_at hl 2 rfl) ?_
  refine lv_aload_n hx hb dX4_drinksIn_14 rfl (lv_at hl 0 rfl) ?_
  refine lv_iload_n hx hb dX4_drinksIn_15 rfl (lv_at hl 1 rfl) ?_
  refine lv_iconst (v := nI (1)) hx hb dX4_drinksIn_16 (by decide) ?_
  refine ro_i (roV_run (As := [.int (nI i), .int (nI 1)]) (rest := [.int (nI w), .int (nI ((f 5) (f 8 (6 * i + 0))))]) hx hb hml hown hts Tg_M (c_X4_fact l D G _ ad n f k b tr i 1 (by omega) (by omega) (by omega)) lk_RX4_147 ⟨rfl, rfl, Nat.le_of_ble_eq_true rfl, Nat.le_of_ble_eq_true rfl⟩ hP hK [0, 3, 4, 5] rfl 0 3 rfl rfl rfl rfl hl rfl (Nat.le_of_ble_eq_true rfl) dX4_drinksIn_17 ⟨Nat.le_of_ble_eq_true rfl, Nat.le_of_ble_eq_true rfl⟩) hS hA (fun locs hS => ?_)
  refine lv_aload_n hx hb dX4_drinksIn_20 rfl (lv_at hl 0 rfl) ?_
  refine lv_iload_n hx hb dX4_drinksIn_21 rfl (lv_at hl 1 rfl) ?_
  refine lv_iconst (v := nI (2)) hx hb dX4_drinksIn_22 (by decide) ?_
  refine ro_i (roV_run (As := [.int (nI i), .int (nI 2)]) (rest := [.int (nI (f 8 (6 * i + 1))), .int (nI w), .int (nI ((f 5) (f 8 (6 * i + 0))))]) hx hb hml hown hts Tg_M (c_X4_fact l D G _ ad n f k b tr i 2 (by omega) (by omega) (by omega)) lk_RX4_147 ⟨rfl, rfl, Nat.le_of_ble_eq_true rfl, Nat.le_of_ble_eq_true rfl⟩ hP hK [0, 3, 4, 5] rfl 0 3 rfl rfl rfl rfl hl rfl (Nat.le_of_ble_eq_true rfl) dX4_drinksIn_23 ⟨Nat.le_of_ble_eq_true rfl, Nat.le_of_ble_eq_true rfl⟩) hS hA (fun locs hS => ?_)
  refine ro_i (roS_run (As := [.int (nI ((f 5) (f 8 (6 * i + 0)))), .int (nI w), .int (nI (f 8 (6 * i + 1))), .int (nI (f 8 (6 * i + 2)))]) (rest := []) hx hb hml hown hts Tg_M (c_X0_drinks l D G _ ((f 5) (f 8 (6 * i + 0))) w (f 8 (6 * i + 1)) (f 8 (6 * i + 2)) (by omega) (by omega) (by omega) (by omega)) lk_RX4_122 ⟨rfl, rfl, Nat.le_of_ble_eq_true rfl, Nat.le_of_ble_eq_true rfl⟩ hP hK [] rfl rfl hl rfl (Nat.le_of_ble_eq_true rfl) dX4_drinksIn_26 ⟨Nat.le_of_ble_eq_true rfl, Nat.le_of_ble_eq_true rfl⟩) hS hA (fun locs hS => ?_)
  exact ro_iret hx hb hr hlocks hS dX4_drinksIn_29 (rfl)

set_option maxHeartbeats 4000000 in
set_option maxRecDepth 100000 in
theorem c_X4_canWeigh (l : Launch) (D : va_G) (G : ClassId × ClassId × ClassId) (H0 : Heap) (ad n : Nat → Nat) (f : Nat → Nat → Nat) (k : Nat → Nat) (b : Nat → Bool) (tr : Int64) (q j w : Nat) (hI : XI n f k q) (hw : w ≤ 60) (hj : j < 2 ^ 31) : Met l yX4_canWeigh (wM yX4_canWeigh cX4_canWeigh 5 (some .boolean)) (rmD 4) (rP D G [.ref (ad 0), .int (nI j), .int (nI w)] [(ad 0, .inr (3, [.ref (ad 1), .ref (ad 10), .ref (ad 12), .ref (ad 14), .ref (ad 16), .ref (ad 21), .ref (ad 26), .int (bI (b 1)), .int (bI (b 2)), .long (tr)])), (ad 12, .inr (2, [.ref (ad 13), .int (nI (n 5))])), (ad 13, .inl (G.1, 6, .inl (nF (f 5)))), (ad 16, .inr (0, [.ref (ad 17), .ref (ad 19), .int (nI (k 5))])), (ad 19, .inr (2, [.ref (ad 20), .int (nI (6 * n 8))])), (ad 20, .inl (G.1, 72, .inl (nF (f 8))))] H0) (rQi (bI (canW f (n 8) j w)) H0) 0 0 (rF H0) := by
  refine ro_start (Qc := fun H0 => (rQi (bI (canW f (n 8) j w)) H0)) (by decide) (Nat.le_of_ble_eq_true rfl) ?_
  intro p e s m args below meth c hx hb hr hts hown hlocks hml hP hK hA hH0 ls hl locs hS
  have hl : lv_has ls 5 [(0, .ref (ad 0)), (1, .int (nI j)), (2, .int (nI w))] := hl
  have hI0 := hI
  obtain ⟨i4, i5, i6, iq, iw, il, i7, i8, ih9, ik, iF⟩ := hI
  refine lv_iconst (v := nI (0)) hx hb dX4_canWeigh_0 (by decide) ?_
  refine lv_istore_n (lv' := [(3, .int (nI 0)), (0, .ref (ad 0)), (1, .int (nI j)), (2, .int (nI w))]) hx hb dX4_canWeigh_1 rfl hl (by decide) rfl (fun ls hl => ?_)
  have loop_1 : ∀ (fuel : Nat) (i : Nat), (i ≤ n 8) → (∀ a, a < i → cwP f j w a) → (n 8 - i) < fuel → ∀ (locs : List Loc), va_S (rF s.heap) s.heap s.heap locs → ∀ (ls : Array Slot), lv_has ls 5 [(0, .ref (ad 0)), (1, .int (nI j)), (2, .int (nI w)), (3, .int (nI i))] → W p l e (rmD 4) s m args below meth c s.heap locs 0 0 (MQ below (rQi (bI (canW f (n 8) j w)) s.heap) args s 0 0 (rF s.heap)) (F0 m 2 ls []) := by
    intro fuel
    induction fuel with
    | zero => intro i hi hp hfu; exact absurd hfu (Nat.not_lt_zero _)
    | succ fuel ih_2 =>
      intro i hi hp hfu locs hS ls hl
      refine lv_iload_n hx hb dX4_canWeigh_2 rfl (lv_at hl 3 rfl) ?_
      refine lv_aload_n hx hb dX4_canWeigh_3 rfl (lv_at hl 0 rfl) ?_
      refine ro_i (roV_run (As := []) (rest := [.int (nI i)]) hx hb hml hown hts Tg_M (c_X4_facts l D G _ ad n f k b tr  (by omega)) lk_RX4_126 ⟨rfl, rfl, Nat.le_of_ble_eq_true rfl, Nat.le_of_ble_eq_true rfl⟩ hP hK [0, 3, 4, 5] rfl 0 3 rfl rfl rfl rfl hl rfl (Nat.le_of_ble_eq_true rfl) dX4_canWeigh_4 ⟨Nat.le_of_ble_eq_true rfl, Nat.le_of_ble_eq_true rfl⟩) hS hA (fun locs hS => ?_)
      refine n_icmp_ge (tgt := 64) hx hb dX4_canWeigh_7 (by decide) (by omega) (by omega) (fun c_7 => ?_) (fun c_7 => ?_)
      · refine lv_iconst (v := nI (1)) hx hb dX4_canWeigh_64 (by decide) ?_
        exact ro_zret hx hb hr hlocks hS dX4_canWeigh_65 (rfl) (bI_of_t (decide_eq_true (fun a ha => hp a (by omega))))
      · have e0 := iF i c_7
        have e1 := il _ e0.1
        have e2 := drk_lt e1 hw (show f 8 (6 * i + 1) ≤ 4096 by omega) e0.2.2.1
        refine lv_aload_n hx hb dX4_canWeigh_10 rfl (lv_at hl 0 rfl) ?_
        refine lv_iload_n hx hb dX4_canWeigh_11 rfl (lv_at hl 3 rfl) ?_
        refine lv_iconst (v := nI (3)) hx hb dX4_canWeigh_12 (by decide) ?_
        refine ro_i (roV_run (As := [.int (nI i), .int (nI 3)]) (rest := []) hx hb hml hown hts Tg_M (c_X4_fact l D G _ ad n f k b tr i 3 (by omega) (by omega) (by omega)) lk_RX4_147 ⟨rfl, rfl, Nat.le_of_ble_eq_true rfl, Nat.le_of_ble_eq_true rfl⟩ hP hK [0, 3, 4, 5] rfl 0 3 rfl rfl rfl rfl hl rfl (Nat.le_of_ble_eq_true rfl) dX4_canWeigh_13 ⟨Nat.le_of_ble_eq_true rfl, Nat.le_of_ble_eq_true rfl⟩) hS hA (fun locs hS => ?_)
        refine lv_iload_n hx hb dX4_canWeigh_16 rfl (lv_at hl 1 rfl) ?_
        refine n_icmp_ne (tgt := 33) hx hb dX4_canWeigh_17 (by decide) (by omega) (by omega) (fun c_17 => ?_) (fun c_17 => ?_)
        · refine lv_iconst (v := nI (0)) hx hb dX4_canWeigh_33 (by decide) ?_
          refine lv_istore (lv' := [(4, .int (nI 0)), (0, .ref (ad 0)), (1, .int (nI j)), (2, .int (nI w)), (3, .int (nI i))]) hx hb dX4_canWeigh_34 hl (by decide) rfl (fun ls hl => ?_)
          refine lv_iload hx hb dX4_canWeigh_36 (lv_at hl 0 rfl) ?_
          refine n_if_eq (tgt := 58) hx hb dX4_canWeigh_38 (by decide) (by omega) (fun c_38 => ?_) (fun c_38 => ?_)
          · refine lv_iinc (v := nI (i + 1)) (lv' := [(3, .int (nI (i + 1))), (4, .int (nI 0)), (0, .ref (ad 0)), (1, .int (nI j)), (2, .int (nI w))]) hx hb dX4_canWeigh_58 hl (k := 4) rfl (nI_inc _ _) (by decide) rfl (fun ls hl => ?_)
            refine lv_goto (tgt := 2) hx hb dX4_canWeigh_61 (by decide) ?_
            exact ih_2 (i + 1) (by omega) (lt_s hp (fun z => absurd z c_17)) (by omega) locs hS _ (lv_sub hl [2, 3, 4, 0] rfl)
          · exact absurd c_38 (by decide)
        · refine lv_aload_n hx hb dX4_canWeigh_20 rfl (lv_at hl 0 rfl) ?_
          refine lv_iload_n hx hb dX4_canWeigh_21 rfl (lv_at hl 3 rfl) ?_
          refine lv_iconst (v := nI (5)) hx hb dX4_canWeigh_22 (by decide) ?_
          refine ro_i (roV_run (As := [.int (nI i), .int (nI 5)]) (rest := []) hx hb hml hown hts Tg_M (c_X4_fact l D G _ ad n f k b tr i 5 (by omega) (by omega) (by omega)) lk_RX4_147 ⟨rfl, rfl, Nat.le_of_ble_eq_true rfl, Nat.le_of_ble_eq_true rfl⟩ hP hK [0, 3, 4, 5] rfl 0 3 rfl rfl rfl rfl hl rfl (Nat.le_of_ble_eq_true rfl) dX4_canWeigh_23 ⟨Nat.le_of_ble_eq_true rfl, Nat.le_of_ble_eq_true rfl⟩) hS hA (fun locs hS => ?_)
          refine n_if_ne (tgt := 33) hx hb dX4_canWeigh_26 (by decide) (by omega) (fun c_26 => ?_) (fun c_26 => ?_)
          · refine lv_iconst (v := nI (0)) hx hb dX4_canWeigh_33 (by decide) ?_
            refine lv_istore (lv' := [(4, .int (nI 0)), (0, .ref (ad 0)), (1, .int (nI j)), (2, .int (nI w)), (3, .int (nI i))]) hx hb dX4_canWeigh_34 hl (by decide) rfl (fun ls hl => ?_)
            refine lv_iload hx hb dX4_canWeigh_36 (lv_at hl 0 rfl) ?_
            refine n_if_eq (tgt := 58) hx hb dX4_canWeigh_38 (by decide) (by omega) (fun c_38 => ?_) (fun c_38 => ?_)
            · refine lv_iinc (v := nI (i + 1)) (lv' := [(3, .int (nI (i + 1))), (4, .int (nI 0)), (0, .ref (ad 0)), (1, .int (nI j)), (2, .int (nI w))]) hx hb dX4_canWeigh_58 hl (k := 4) rfl (nI_inc _ _) (by decide) rfl (fun ls hl => ?_)
              refine lv_goto (tgt := 2) hx hb dX4_canWeigh_61 (by decide) ?_
              exact ih_2 (i + 1) (by omega) (lt_s hp (fun _ z => absurd z c_26)) (by omega) locs hS _ (lv_sub hl [2, 3, 4, 0] rfl)
            · exact absurd c_38 (by decide)
          · refine lv_iconst (v := nI (1)) hx hb dX4_canWeigh_29 (by decide) ?_
            refine lv_goto (tgt := 34) hx hb dX4_canWeigh_30 (by decide) ?_
            refine lv_istore (lv' := [(4, .int (nI 1)), (0, .ref (ad 0)), (1, .int (nI j)), (2, .int (nI w)), (3, .int (nI i))]) hx hb dX4_canWeigh_34 hl (by decide) rfl (fun ls hl => ?_)
            refine lv_iload hx hb dX4_canWeigh_36 (lv_at hl 0 rfl) ?_
            refine n_if_eq (tgt := 58) hx hb dX4_canWeigh_38 (by decide) (by omega) (fun c_38 => ?_) (fun c_38 => ?_)
            · exact absurd c_38 (by decide)
            · refine lv_aload_n hx hb dX4_canWeigh_41 rfl (lv_at hl 1 rfl) ?_
              refine lv_iload_n hx hb dX4_canWeigh_42 rfl (lv_at hl 4 rfl) ?_
              refine lv_iload_n hx hb dX4_canWeigh_43 rfl (lv_at hl 3 rfl) ?_
              refine ro_i (roV_run (As := [.int (nI i), .int (nI w)]) (rest := []) hx hb hml hown hts Tg_M (c_X4_drinksIn l D G _ ad n f k b tr q i w hI0 (by omega) (by omega)) lk_RX4_178 ⟨rfl, rfl, Nat.le_of_ble_eq_true rfl, Nat.le_of_ble_eq_true rfl⟩ hP hK [0, 1, 2, 3, 4, 5] rfl 0 3 rfl rfl rfl rfl hl rfl (Nat.le_of_ble_eq_true rfl) dX4_canWeigh_44 ⟨Nat.le_of_ble_eq_true rfl, Nat.le_of_ble_eq_true rfl⟩) hS hA (fun locs hS => ?_)
              refine lv_aload_n hx hb dX4_canWeigh_47 rfl (lv_at hl 1 rfl) ?_
              refine lv_iload_n hx hb dX4_canWeigh_48 rfl (lv_at hl 4 rfl) ?_
              refine lv_iconst (v := nI (4)) hx hb dX4_canWeigh_49 (by decide) ?_
              refine ro_i (roV_run (As := [.int (nI i), .int (nI 4)]) (rest := [.int (nI (drk (f 5 (f 8 (6 * i + 0))) w (f 8 (6 * i + 1)) (f 8 (6 * i + 2))))]) hx hb hml hown hts Tg_M (c_X4_fact l D G _ ad n f k b tr i 4 (by omega) (by omega) (by omega)) lk_RX4_147 ⟨rfl, rfl, Nat.le_of_ble_eq_true rfl, Nat.le_of_ble_eq_true rfl⟩ hP hK [0, 3, 4, 5] rfl 0 3 rfl rfl rfl rfl hl rfl (Nat.le_of_ble_eq_true rfl) dX4_canWeigh_50 ⟨Nat.le_of_ble_eq_true rfl, Nat.le_of_ble_eq_true rfl⟩) hS hA (fun locs hS => ?_)
              refine n_icmp_eq (tgt := 58) hx hb dX4_canWeigh_53 (by decide) (by omega) (by omega) (fun c_53 => ?_) (fun c_53 => ?_)
              · refine lv_iinc (v := nI (i + 1)) (lv' := [(3, .int (nI (i + 1))), (4, .int (nI 1)), (0, .ref (ad 0)), (1, .int (nI j)), (2, .int (nI w))]) hx hb dX4_canWeigh_58 hl (k := 4) rfl (nI_inc _ _) (by decide) rfl (fun ls hl => ?_)
                refine lv_goto (tgt := 2) hx hb dX4_canWeigh_61 (by decide) ?_
                exact ih_2 (i + 1) (by omega) (lt_s hp (fun _ _ => c_53)) (by omega) locs hS _ (lv_sub hl [2, 3, 4, 0] rfl)
              · refine lv_iconst (v := nI (0)) hx hb dX4_canWeigh_56 (by decide) ?_
                exact ro_zret hx hb hr hlocks hS dX4_canWeigh_57 (rfl) (bI_of_f (decide_eq_false (fun z => absurd (z i (by omega) c_17 c_26) (by omega))))
  exact loop_1 (n 8 - 0 + 1) (0) (Nat.zero_le _) (fun a ha => absurd ha (Nat.not_lt_zero a)) (Nat.lt_succ_self _) locs hS _ (lv_sub hl [1, 2, 3, 0] rfl)

set_option maxHeartbeats 4000000 in
set_option maxRecDepth 100000 in
theorem c_X4_leastOf (l : Launch) (D : va_G) (G : ClassId × ClassId × ClassId) (H0 : Heap) (ad n : Nat → Nat) (f : Nat → Nat → Nat) (k : Nat → Nat) (b : Nat → Bool) (tr : Int64) (q j : Nat) (hI : XI n f k q) (hj : j < 2 ^ 31) : Met l yX4_leastOf (wM yX4_leastOf cX4_leastOf 3 (some .int)) (rmD 5) (rP D G [.ref (ad 0), .int (nI j)] [(ad 0, .inr (3, [.ref (ad 1), .ref (ad 10), .ref (ad 12), .ref (ad 14), .ref (ad 16), .ref (ad 21), .ref (ad 26), .int (bI (b 1)), .int (bI (b 2)), .long (tr)])), (ad 12, .inr (2, [.ref (ad 13), .int (nI (n 5))])), (ad 13, .inl (G.1, 6, .inl (nF (f 5)))), (ad 16, .inr (0, [.ref (ad 17), .ref (ad 19), .int (nI (k 5))])), (ad 19, .inr (2, [.ref (ad 20), .int (nI (6 * n 8))])), (ad 20, .inl (G.1, 72, .inl (nF (f 8))))] H0) (rQi (nI (loP (canW f (n 8) j))) H0) 0 0 (rF H0) := by
  refine ro_start (Qc := fun H0 => (rQi (nI (loP (canW f (n 8) j))) H0)) (by decide) (Nat.le_of_ble_eq_true rfl) ?_
  intro p e s m args below meth c hx hb hr hts hown hlocks hml hP hK hA hH0 ls hl locs hS
  have hl : lv_has ls 3 [(0, .ref (ad 0)), (1, .int (nI j))] := hl
  have hI0 := hI
  refine lv_iconst (v := nI (0)) hx hb dX4_leastOf_0 (by decide) ?_
  refine lv_istore_n (lv' := [(2, .int (nI 0)), (0, .ref (ad 0)), (1, .int (nI j))]) hx hb dX4_leastOf_1 rfl hl (by decide) rfl (fun ls hl => ?_)
  have loop_1 : ∀ (fuel : Nat) (w : Nat), (w ≤ 60) → (upS (canW f (n 8) j) 60 0 = upS (canW f (n 8) j) (60 - w) w) → (60 - w) < fuel → ∀ (locs : List Loc), va_S (rF s.heap) s.heap s.heap locs → ∀ (ls : Array Slot), lv_has ls 3 [(0, .ref (ad 0)), (1, .int (nI j)), (2, .int (nI w))] → W p l e (rmD 5) s m args below meth c s.heap locs 0 0 (MQ below (rQi (nI (loP (canW f (n 8) j))) s.heap) args s 0 0 (rF s.heap)) (F0 m 2 ls []) := by
    intro fuel
    induction fuel with
    | zero => intro w hi hu hfu; exact absurd hfu (Nat.not_lt_zero _)
    | succ fuel ih_2 =>
      intro w hi hu hfu locs hS ls hl
      refine lv_iload_n hx hb dX4_leastOf_2 rfl (lv_at hl 2 rfl) ?_
      refine lv_bipush (v := nI (60)) hx hb dX4_leastOf_3 (by decide) ?_
      refine n_icmp_ge (tgt := 23) hx hb dX4_leastOf_5 (by decide) (by omega) (by omega) (fun c_5 => ?_) (fun c_5 => ?_)
      · refine lv_iload_n hx hb dX4_leastOf_23 rfl (lv_at hl 2 rfl) ?_
        exact ro_iret hx hb hr hlocks hS dX4_leastOf_24 (congrArg nI (by rw [loP, hu, show 60 - w = 0 by omega]; rfl))
      · refine lv_aload_n hx hb dX4_leastOf_8 rfl (lv_at hl 0 rfl) ?_
        refine lv_iload_n hx hb dX4_leastOf_9 rfl (lv_at hl 1 rfl) ?_
        refine lv_iload_n hx hb dX4_leastOf_10 rfl (lv_at hl 2 rfl) ?_
        refine ro_i (roV_run (As := [.int (nI j), .int (nI w)]) (rest := []) hx hb hml hown hts Tg_M (c_X4_canWeigh l D G _ ad n f k b tr q j w hI0 (by omega) (by omega)) lk_RX4_213 ⟨rfl, rfl, Nat.le_of_ble_eq_true rfl, Nat.le_of_ble_eq_true rfl⟩ hP hK [0, 1, 2, 3, 4, 5] rfl 0 3 rfl rfl rfl rfl hl rfl (Nat.le_of_ble_eq_true rfl) dX4_leastOf_11 ⟨Nat.le_of_ble_eq_true rfl, Nat.le_of_ble_eq_true rfl⟩) hS hA (fun locs hS => ?_)
        refine b_if_ne (tgt := 23) hx hb dX4_leastOf_14 (by decide) (fun c_14 => ?_) (fun c_14 => ?_)
        · refine lv_iload_n hx hb dX4_leastOf_23 rfl (lv_at hl 2 rfl) ?_
          exact ro_iret hx hb hr hlocks hS dX4_leastOf_24 (congrArg nI (by rw [loP, hu, upS_t c_14]))
        · refine lv_iinc (v := nI (w + 1)) (lv' := [(2, .int (nI (w + 1))), (0, .ref (ad 0)), (1, .int (nI j))]) hx hb dX4_leastOf_17 hl (k := 2) rfl (nI_inc _ _) (by decide) rfl (fun ls hl => ?_)
          refine lv_goto (tgt := 2) hx hb dX4_leastOf_20 (by decide) ?_
          exact ih_2 (w + 1) (by omega) (by rw [hu, show 60 - w = (60 - (w + 1)) + 1 by omega, upS_f c_14]) (by omega) locs hS _ (lv_sub hl [1, 2, 0] rfl)
  exact loop_1 (60 - 0 + 1) (0) (by omega) (rfl) (Nat.lt_succ_self _) locs hS _ (lv_sub hl [1, 2, 0] rfl)

set_option maxHeartbeats 4000000 in
set_option maxRecDepth 100000 in
theorem c_X4_greatestOf (l : Launch) (D : va_G) (G : ClassId × ClassId × ClassId) (H0 : Heap) (ad n : Nat → Nat) (f : Nat → Nat → Nat) (k : Nat → Nat) (b : Nat → Bool) (tr : Int64) (q j : Nat) (hI : XI n f k q) (hj : j < 2 ^ 31) : Met l yX4_greatestOf (wM yX4_greatestOf cX4_greatestOf 3 (some .int)) (rmD 5) (rP D G [.ref (ad 0), .int (nI j)] [(ad 0, .inr (3, [.ref (ad 1), .ref (ad 10), .ref (ad 12), .ref (ad 14), .ref (ad 16), .ref (ad 21), .ref (ad 26), .int (bI (b 1)), .int (bI (b 2)), .long (tr)])), (ad 12, .inr (2, [.ref (ad 13), .int (nI (n 5))])), (ad 13, .inl (G.1, 6, .inl (nF (f 5)))), (ad 16, .inr (0, [.ref (ad 17), .ref (ad 19), .int (nI (k 5))])), (ad 19, .inr (2, [.ref (ad 20), .int (nI (6 * n 8))])), (ad 20, .inl (G.1, 72, .inl (nF (f 8))))] H0) (rQi (nI (hiP (canW f (n 8) j))) H0) 0 0 (rF H0) := by
  refine ro_start (Qc := fun H0 => (rQi (nI (hiP (canW f (n 8) j))) H0)) (by decide) (Nat.le_of_ble_eq_true rfl) ?_
  intro p e s m args below meth c hx hb hr hts hown hlocks hml hP hK hA hH0 ls hl locs hS
  have hl : lv_has ls 3 [(0, .ref (ad 0)), (1, .int (nI j))] := hl
  have hI0 := hI
  refine lv_bipush (v := nI (60)) hx hb dX4_greatestOf_0 (by decide) ?_
  refine lv_istore_n (lv' := [(2, .int (nI 60)), (0, .ref (ad 0)), (1, .int (nI j))]) hx hb dX4_greatestOf_2 rfl hl (by decide) rfl (fun ls hl => ?_)
  have loop_1 : ∀ (fuel : Nat) (w : Nat), (w ≤ 60) → (dnS (canW f (n 8) j) 60 60 = dnS (canW f (n 8) j) w w) → (w) < fuel → ∀ (locs : List Loc), va_S (rF s.heap) s.heap s.heap locs → ∀ (ls : Array Slot), lv_has ls 3 [(0, .ref (ad 0)), (1, .int (nI j)), (2, .int (nI w))] → W p l e (rmD 5) s m args below meth c s.heap locs 0 0 (MQ below (rQi (nI (hiP (canW f (n 8) j))) s.heap) args s 0 0 (rF s.heap)) (F0 m 3 ls []) := by
    intro fuel
    induction fuel with
    | zero => intro w hi hu hfu; exact absurd hfu (Nat.not_lt_zero _)
    | succ fuel ih_2 =>
      intro w hi hu hfu locs hS ls hl
      refine lv_iload_n hx hb dX4_greatestOf_3 rfl (lv_at hl 2 rfl) ?_
      refine n_if_le (tgt := 22) hx hb dX4_greatestOf_4 (by decide) (by omega) (fun c_4 => ?_) (fun c_4 => ?_)
      · refine lv_iload_n hx hb dX4_greatestOf_22 rfl (lv_at hl 2 rfl) ?_
        exact ro_iret hx hb hr hlocks hS dX4_greatestOf_23 (congrArg nI (by rw [hiP, hu, c_4]; rfl))
      · refine lv_aload_n hx hb dX4_greatestOf_7 rfl (lv_at hl 0 rfl) ?_
        refine lv_iload_n hx hb dX4_greatestOf_8 rfl (lv_at hl 1 rfl) ?_
        refine lv_iload_n hx hb dX4_greatestOf_9 rfl (lv_at hl 2 rfl) ?_
        refine ro_i (roV_run (As := [.int (nI j), .int (nI w)]) (rest := []) hx hb hml hown hts Tg_M (c_X4_canWeigh l D G _ ad n f k b tr q j w hI0 (by omega) (by omega)) lk_RX4_213 ⟨rfl, rfl, Nat.le_of_ble_eq_true rfl, Nat.le_of_ble_eq_true rfl⟩ hP hK [0, 1, 2, 3, 4, 5] rfl 0 3 rfl rfl rfl rfl hl rfl (Nat.le_of_ble_eq_true rfl) dX4_greatestOf_10 ⟨Nat.le_of_ble_eq_true rfl, Nat.le_of_ble_eq_true rfl⟩) hS hA (fun locs hS => ?_)
        refine b_if_ne (tgt := 22) hx hb dX4_greatestOf_13 (by decide) (fun c_13 => ?_) (fun c_13 => ?_)
        · refine lv_iload_n hx hb dX4_greatestOf_22 rfl (lv_at hl 2 rfl) ?_
          exact ro_iret hx hb hr hlocks hS dX4_greatestOf_23 (congrArg nI (by rw [hiP, hu, dnS_t c_13]))
        · refine lv_iinc (v := nI (w - 1)) (lv' := [(2, .int (nI (w - 1))), (0, .ref (ad 0)), (1, .int (nI j))]) hx hb dX4_greatestOf_16 hl (k := 2) rfl (nI_dec (k := 1) (by omega)) (by decide) rfl (fun ls hl => ?_)
          refine lv_goto (tgt := 3) hx hb dX4_greatestOf_19 (by decide) ?_
          exact ih_2 (w - 1) (by omega) (by rw [hu, show w = (w - 1) + 1 by omega, dnS_f (by rw [show w - 1 + 1 = w by omega]; exact c_13)]; rfl) (by omega) locs hS _ (lv_sub hl [1, 2, 0] rfl)
  exact loop_1 (60 + 1) (60) (by omega) (rfl) (Nat.lt_succ_self _) locs hS _ (lv_sub hl [1, 2, 0] rfl)

set_option maxHeartbeats 4000000 in
set_option maxRecDepth 100000 in
theorem c_X4_endOfSpan (l : Launch) (D : va_G) (G : ClassId × ClassId × ClassId) (H0 : Heap) (ad n : Nat → Nat) (f : Nat → Nat → Nat) (k : Nat → Nat) (b : Nat → Bool) (tr : Int64) (law nn fi gr : Nat) (hlaw : law < 3240) (hnn : nn ≤ 4096) (hfg : fi ≤ gr) (hgr : gr ≤ 60) (hk5 : k 5 ≤ 9) : Met l yX4_endOfSpan (wM yX4_endOfSpan cX4_endOfSpan 7 (some .int)) (rmD 3) (rP D G [.ref (ad 0), .int (nI law), .int (nI nn), .int (nI fi), .int (nI gr)] [(ad 0, .inr (3, [.ref (ad 1), .ref (ad 10), .ref (ad 12), .ref (ad 14), .ref (ad 16), .ref (ad 21), .ref (ad 26), .int (bI (b 1)), .int (bI (b 2)), .long (tr)])), (ad 16, .inr (0, [.ref (ad 17), .ref (ad 19), .int (nI (k 5))]))] H0) (rQi (nI (eoS (fun w => drk law w nn (k 5)) (drk law fi nn (k 5)) (gr - fi) fi)) H0) 0 0 (rF H0) := by
  refine ro_start (Qc := fun H0 => (rQi (nI (eoS (fun w => drk law w nn (k 5)) (drk law fi nn (k 5)) (gr - fi) fi)) H0)) (by decide) (Nat.le_of_ble_eq_true rfl) ?_
  intro p e s m args below meth c hx hb hr hts hown hlocks hml hP hK hA hH0 ls hl locs hS
  have hl : lv_has ls 7 [(0, .ref (ad 0)), (1, .int (nI law)), (2, .int (nI nn)), (3, .int (nI fi)), (4, .int (nI gr))] := hl
  refine lv_iload_n hx hb dX4_endOfSpan_0 rfl (lv_at hl 1 rfl) ?_
  refine lv_iload_n hx hb dX4_endOfSpan_1 rfl (lv_at hl 3 rfl) ?_
  refine lv_iload_n hx hb dX4_endOfSpan_2 rfl (lv_at hl 2 rfl) ?_
  refine lv_aload_n hx hb dX4_endOfSpan_3 rfl (lv_at hl 0 rfl) ?_
  refine va_get (D := D) (ci := 3) (v := .ref (ad 16)) (C := RX4) (T := TX4) (N := 10) hx hb hts (iX4) hown hK hP 0 rfl rfl 4 (by decide) (hts _ (List.mem_cons_of_mem _ wt_160)) (fun _ h9 => h9) rfl dX4_endOfSpan_4 ?_
  refine va_get (D := D) (ci := 0) (v := .int (nI (k 5))) (C := RX1) (T := TX1) (N := 3) hx hb hts (iX1) hown hK hP 1 rfl rfl 2 (by decide) (hts _ (List.mem_cons_of_mem _ wt_148)) (fun _ h9 => h9) rfl dX4_endOfSpan_7 ?_
  refine ro_i (roS_run (As := [.int (nI law), .int (nI fi), .int (nI nn), .int (nI (k 5))]) (rest := []) hx hb hml hown hts Tg_M (c_X0_drinks l D G _ law fi nn (k 5) hlaw (by omega) hnn hk5) lk_RX4_122 ⟨rfl, rfl, Nat.le_of_ble_eq_true rfl, Nat.le_of_ble_eq_true rfl⟩ hP hK [] rfl rfl hl rfl (Nat.le_of_ble_eq_true rfl) dX4_endOfSpan_10 ⟨Nat.le_of_ble_eq_true rfl, Nat.le_of_ble_eq_true rfl⟩) hS hA (fun locs hS => ?_)
  refine lv_istore (lv' := [(5, .int (nI (drk law fi nn (k 5)))), (0, .ref (ad 0)), (1, .int (nI law)), (2, .int (nI nn)), (3, .int (nI fi)), (4, .int (nI gr))]) hx hb dX4_endOfSpan_13 hl (by decide) rfl (fun ls hl => ?_)
  refine lv_iload_n hx hb dX4_endOfSpan_15 rfl (lv_at hl 4 rfl) ?_
  refine lv_istore (lv' := [(6, .int (nI fi)), (5, .int (nI (drk law fi nn (k 5)))), (0, .ref (ad 0)), (1, .int (nI law)), (2, .int (nI nn)), (3, .int (nI fi)), (4, .int (nI gr))]) hx hb dX4_endOfSpan_16 hl (by decide) rfl (fun ls hl => ?_)
  have loop_1 : ∀ (fuel : Nat) (w : Nat), (fi ≤ w) → (w ≤ gr) → (eoS (fun w => drk law w nn (k 5)) (drk law fi nn (k 5)) (gr - fi) fi = eoS (fun w => drk law w nn (k 5)) (drk law fi nn (k 5)) (gr - w) w) → (gr - w) < fuel → ∀ (locs : List Loc), va_S (rF s.heap) s.heap s.heap locs → ∀ (ls : Array Slot), lv_has ls 7 [(0, .ref (ad 0)), (1, .int (nI law)), (2, .int (nI nn)), (4, .int (nI gr)), (5, .int (nI (drk law fi nn (k 5)))), (6, .int (nI w))] → W p l e (rmD 3) s m args below meth c s.heap locs 0 0 (MQ below (rQi (nI (eoS (fun w => drk law w nn (k 5)) (drk law fi nn (k 5)) (gr - fi) fi)) s.heap) args s 0 0 (rF s.heap)) (F0 m 18 ls []) := by
    intro fuel
    induction fuel with
    | zero => intro w hi1 hi hu hfu; exact absurd hfu (Nat.not_lt_zero _)
    | succ fuel ih_2 =>
      intro w hi1 hi hu hfu locs hS ls hl
      refine lv_iload hx hb dX4_endOfSpan_18 (lv_at hl 5 rfl) ?_
      refine lv_iload hx hb dX4_endOfSpan_20 (lv_at hl 3 rfl) ?_
      refine n_icmp_ge (tgt := 52) hx hb dX4_endOfSpan_22 (by decide) (by omega) (by omega) (fun c_22 => ?_) (fun c_22 => ?_)
      · refine lv_iload hx hb dX4_endOfSpan_52 (lv_at hl 5 rfl) ?_
        exact ro_iret hx hb hr hlocks hS dX4_endOfSpan_54 (congrArg nI (by rw [hu, show gr - w = 0 by omega]; rfl))
      · refine lv_iload_n hx hb dX4_endOfSpan_25 rfl (lv_at hl 1 rfl) ?_
        refine lv_iload hx hb dX4_endOfSpan_26 (lv_at hl 5 rfl) ?_
        refine lv_iconst (v := nI (1)) hx hb dX4_endOfSpan_28 (by decide) ?_
        refine n_iadd hx hb dX4_endOfSpan_29 ?_
        refine lv_iload_n hx hb dX4_endOfSpan_30 rfl (lv_at hl 2 rfl) ?_
        refine lv_aload_n hx hb dX4_endOfSpan_31 rfl (lv_at hl 0 rfl) ?_
        refine va_get (D := D) (ci := 3) (v := .ref (ad 16)) (C := RX4) (T := TX4) (N := 10) hx hb hts (iX4) hown hK hP 0 rfl rfl 4 (by decide) (hts _ (List.mem_cons_of_mem _ wt_160)) (fun _ h9 => h9) rfl dX4_endOfSpan_32 ?_
        refine va_get (D := D) (ci := 0) (v := .int (nI (k 5))) (C := RX1) (T := TX1) (N := 3) hx hb hts (iX1) hown hK hP 1 rfl rfl 2 (by decide) (hts _ (List.mem_cons_of_mem _ wt_148)) (fun _ h9 => h9) rfl dX4_endOfSpan_35 ?_
        refine ro_i (roS_run (As := [.int (nI law), .int (nI (w + 1)), .int (nI nn), .int (nI (k 5))]) (rest := []) hx hb hml hown hts Tg_M (c_X0_drinks l D G _ law (w + 1) nn (k 5) hlaw (by omega) hnn hk5) lk_RX4_122 ⟨rfl, rfl, Nat.le_of_ble_eq_true rfl, Nat.le_of_ble_eq_true rfl⟩ hP hK [] rfl rfl hl rfl (Nat.le_of_ble_eq_true rfl) dX4_endOfSpan_38 ⟨Nat.le_of_ble_eq_true rfl, Nat.le_of_ble_eq_true rfl⟩) hS hA (fun locs hS => ?_)
        refine lv_iload hx hb dX4_endOfSpan_41 (lv_at hl 4 rfl) ?_
        refine n_icmp_ne (tgt := 52) hx hb dX4_endOfSpan_43 (by decide) (by have := drk_lt (w := w + 1) hlaw (by omega) hnn hk5; omega) (by have := drk_lt (w := fi) hlaw (by omega) hnn hk5; omega) (fun c_43 => ?_) (fun c_43 => ?_)
        · refine lv_iload hx hb dX4_endOfSpan_52 (lv_at hl 5 rfl) ?_
          exact ro_iret hx hb hr hlocks hS dX4_endOfSpan_54 (congrArg nI (by rw [hu, eoS_f (c := (fun w => drk law w nn (k 5))) c_43]))
        · refine lv_iinc (v := nI (w + 1)) (lv' := [(6, .int (nI (w + 1))), (0, .ref (ad 0)), (1, .int (nI law)), (2, .int (nI nn)), (4, .int (nI gr)), (5, .int (nI (drk law fi nn (k 5))))]) hx hb dX4_endOfSpan_46 hl (k := 5) rfl (nI_inc _ _) (by decide) rfl (fun ls hl => ?_)
          refine lv_goto (tgt := 18) hx hb dX4_endOfSpan_49 (by decide) ?_
          exact ih_2 (w + 1) (by omega) (by omega) (by rw [hu, show gr - w = (gr - (w + 1)) + 1 by omega, eoS_t (c := (fun w => drk law w nn (k 5))) c_43]) (by omega) locs hS _ (lv_sub hl [1, 2, 3, 4, 5, 0] rfl)
  exact loop_1 (gr - fi + 1) (fi) (by omega) (by omega) (rfl) (Nat.lt_succ_self _) locs hS _ (lv_sub hl [2, 3, 4, 6, 1, 0] rfl)

set_option maxHeartbeats 4000000 in
set_option maxRecDepth 100000 in
theorem c_X4_leftAtWorst (l : Launch) (D : va_G) (G : ClassId × ClassId × ClassId) (H0 : Heap) (ad n : Nat → Nat) (f : Nat → Nat → Nat) (k : Nat → Nat) (b : Nat → Bool) (tr : Int64) (q t fi gr : Nat) (hI : XI n f k q) (ht : t < n 5) (hfi : fi ≤ 61) (hgr : gr ≤ 60) : Met l yX4_leftAtWorst (wM yX4_leftAtWorst cX4_leftAtWorst 8 (some .int)) (rmD 4) (rP D G [.ref (ad 0), .int (nI t), .int (nI fi), .int (nI gr)] [(ad 0, .inr (3, [.ref (ad 1), .ref (ad 10), .ref (ad 12), .ref (ad 14), .ref (ad 16), .ref (ad 21), .ref (ad 26), .int (bI (b 1)), .int (bI (b 2)), .long (tr)])), (ad 12, .inr (2, [.ref (ad 13), .int (nI (n 5))])), (ad 13, .inl (G.1, 6, .inl (nF (f 5)))), (ad 16, .inr (0, [.ref (ad 17), .ref (ad 19), .int (nI (k 5))])), (ad 17, .inr (2, [.ref (ad 18), .int (nI (n 7))])), (ad 18, .inl (G.1, 6, .inl (nF (f 7))))] H0) (rQi (nI (lwS (fun w => drk (f 5 t) w (f 7 t) (k 5)) gr 61 fi 0)) H0) 0 0 (rF H0) := by
  refine ro_start (Qc := fun H0 => (rQi (nI (lwS (fun w => drk (f 5 t) w (f 7 t) (k 5)) gr 61 fi 0)) H0)) (by decide) (Nat.le_of_ble_eq_true rfl) ?_
  intro p e s m args below meth c hx hb hr hts hown hlocks hml hP hK hA hH0 ls hl locs hS
  have hl : lv_has ls 8 [(0, .ref (ad 0)), (1, .int (nI t)), (2, .int (nI fi)), (3, .int (nI gr))] := hl
  obtain ⟨i4, i5, i6, iq, iw, il, i7, i8, ih9, ik, iF⟩ := hI
  have e1 := il t ht
  have e3 := ik t ht
  refine lv_iconst (v := nI (0)) hx hb dX4_leftAtWorst_0 (by decide) ?_
  refine lv_istore (lv' := [(4, .int (nI 0)), (0, .ref (ad 0)), (1, .int (nI t)), (2, .int (nI fi)), (3, .int (nI gr))]) hx hb dX4_leftAtWorst_1 hl (by decide) rfl (fun ls hl => ?_)
  refine lv_iload_n hx hb dX4_leftAtWorst_3 rfl (lv_at hl 3 rfl) ?_
  refine lv_istore (lv' := [(5, .int (nI fi)), (4, .int (nI 0)), (0, .ref (ad 0)), (1, .int (nI t)), (2, .int (nI fi)), (3, .int (nI gr))]) hx hb dX4_leftAtWorst_4 hl (by decide) rfl (fun ls hl => ?_)
  refine lv_iconst (v := nI (0)) hx hb dX4_leftAtWorst_6 (by decide) ?_
  refine lv_istore (lv' := [(6, .int (nI 0)), (5, .int (nI fi)), (4, .int (nI 0)), (0, .ref (ad 0)), (1, .int (nI t)), (2, .int (nI fi)), (3, .int (nI gr))]) hx hb dX4_leftAtWorst_7 hl (by decide) rfl (fun ls hl => ?_)
  have loop_1 : ∀ (fuel : Nat) (sp : Nat) (fr : Nat) (mo : Nat), (sp ≤ 61) → (fr ≤ 61) → (mo ≤ 61) → (lwS (fun w => drk (f 5 t) w (f 7 t) (k 5)) gr 61 fi 0 = lwS (fun w => drk (f 5 t) w (f 7 t) (k 5)) gr (61 - sp) fr mo) → (61 - sp) < fuel → ∀ (locs : List Loc), va_S (rF s.heap) s.heap s.heap locs → ∀ (ls : Array Slot), lv_has ls 8 [(0, .ref (ad 0)), (1, .int (nI t)), (3, .int (nI gr)), (4, .int (nI mo)), (5, .int (nI fr)), (6, .int (nI sp))] → W p l e (rmD 4) s m args below meth c s.heap locs 0 0 (MQ below (rQi (nI (lwS (fun w => drk (f 5 t) w (f 7 t) (k 5)) gr 61 fi 0)) s.heap) args s 0 0 (rF s.heap)) (F0 m 9 ls []) := by
    intro fuel
    induction fuel with
    | zero => intro sp fr mo hi1 hi2 hi3 hu hfu; exact absurd hfu (Nat.not_lt_zero _)
    | succ fuel ih_2 =>
      intro sp fr mo hi1 hi2 hi3 hu hfu locs hS ls hl
      refine lv_iload hx hb dX4_leftAtWorst_9 (lv_at hl 5 rfl) ?_
      refine lv_bipush (v := nI (60)) hx hb dX4_leftAtWorst_11 (by decide) ?_
      refine n_icmp_gt (tgt := 76) hx hb dX4_leftAtWorst_13 (by decide) (by omega) (by omega) (fun c_13 => ?_) (fun c_13 => ?_)
      · refine lv_iload hx hb dX4_leftAtWorst_76 (lv_at hl 3 rfl) ?_
        exact ro_iret hx hb hr hlocks hS dX4_leftAtWorst_78 (congrArg nI (by rw [hu, show 61 - sp = 0 by omega, lwS]))
      · refine lv_iload hx hb dX4_leftAtWorst_16 (lv_at hl 4 rfl) ?_
        refine lv_iload_n hx hb dX4_leftAtWorst_18 rfl (lv_at hl 2 rfl) ?_
        refine n_icmp_gt (tgt := 76) hx hb dX4_leftAtWorst_19 (by decide) (by omega) (by omega) (fun c_19 => ?_) (fun c_19 => ?_)
        · refine lv_iload hx hb dX4_leftAtWorst_76 (lv_at hl 3 rfl) ?_
          exact ro_iret hx hb hr hlocks hS dX4_leftAtWorst_78 (congrArg nI (by rw [hu, show 61 - sp = (60 - sp) + 1 by omega, lwS, if_neg (by omega)]))
        · have e8 := eoS_in (fun w => drk (f 5 t) w (f 7 t) (k 5)) (drk (f 5 t) fr (f 7 t) (k 5)) (gr - fr) fr
          refine lv_aload_n hx hb dX4_leftAtWorst_22 rfl (lv_at hl 0 rfl) ?_
          refine lv_aload_n hx hb dX4_leftAtWorst_23 rfl (lv_at hl 0 rfl) ?_
          refine va_get (D := D) (ci := 3) (v := .ref (ad 12)) (C := RX4) (T := TX4) (N := 10) hx hb hts (iX4) hown hK hP 0 rfl rfl 2 (by decide) (hts _ (List.mem_cons_of_mem _ wt_158)) (fun _ h9 => h9) rfl dX4_leftAtWorst_24 ?_
          refine lv_iload_n hx hb dX4_leftAtWorst_27 rfl (lv_at hl 1 rfl) ?_
          refine ro_i (roV_run (As := [.int (nI t)]) (rest := [.ref (ad 0)]) hx hb hml hown hts Tg_M (c_X3_at l D G _ (ad 12) (ad 13) 6 (n 5) (f 5) t (by omega) (by omega) (by omega)) lk_RX4_102 ⟨rfl, rfl, Nat.le_of_ble_eq_true rfl, Nat.le_of_ble_eq_true rfl⟩ hP hK [1, 2] rfl 1 2 rfl rfl rfl rfl hl rfl (Nat.le_of_ble_eq_true rfl) dX4_leftAtWorst_28 ⟨Nat.le_of_ble_eq_true rfl, Nat.le_of_ble_eq_true rfl⟩) hS hA (fun locs hS => ?_)
          refine lv_aload_n hx hb dX4_leftAtWorst_31 rfl (lv_at hl 0 rfl) ?_
          refine va_get (D := D) (ci := 3) (v := .ref (ad 16)) (C := RX4) (T := TX4) (N := 10) hx hb hts (iX4) hown hK hP 0 rfl rfl 4 (by decide) (hts _ (List.mem_cons_of_mem _ wt_160)) (fun _ h9 => h9) rfl dX4_leftAtWorst_32 ?_
          refine va_get (D := D) (ci := 0) (v := .ref (ad 17)) (C := RX1) (T := TX1) (N := 3) hx hb hts (iX1) hown hK hP 3 rfl rfl 0 (by decide) (hts _ (List.mem_cons_of_mem _ wt_144)) (fun _ h9 => h9) rfl dX4_leftAtWorst_35 ?_
          refine lv_iload_n hx hb dX4_leftAtWorst_38 rfl (lv_at hl 1 rfl) ?_
          refine ro_i (roV_run (As := [.int (nI t)]) (rest := [.int (nI ((f 5) t)), .ref (ad 0)]) hx hb hml hown hts Tg_M (c_X3_at l D G _ (ad 17) (ad 18) 6 (n 7) (f 7) t (by omega) (by omega) (by omega)) lk_RX4_102 ⟨rfl, rfl, Nat.le_of_ble_eq_true rfl, Nat.le_of_ble_eq_true rfl⟩ hP hK [4, 5] rfl 4 2 rfl rfl rfl rfl hl rfl (Nat.le_of_ble_eq_true rfl) dX4_leftAtWorst_39 ⟨Nat.le_of_ble_eq_true rfl, Nat.le_of_ble_eq_true rfl⟩) hS hA (fun locs hS => ?_)
          refine lv_iload hx hb dX4_leftAtWorst_42 (lv_at hl 4 rfl) ?_
          refine lv_iload_n hx hb dX4_leftAtWorst_44 rfl (lv_at hl 2 rfl) ?_
          refine ro_i (roV_run (As := [.int (nI ((f 5) t)), .int (nI ((f 7) t)), .int (nI fr), .int (nI gr)]) (rest := []) hx hb hml hown hts Tg_M (c_X4_endOfSpan l D G _ ad n f k b tr ((f 5) t) ((f 7) t) fr gr e1 (by omega) (by omega) (by omega) (by omega)) lk_RX4_217 ⟨rfl, rfl, Nat.le_of_ble_eq_true rfl, Nat.le_of_ble_eq_true rfl⟩ hP hK [0, 3] rfl 0 3 rfl rfl rfl rfl hl rfl (Nat.le_of_ble_eq_true rfl) dX4_leftAtWorst_45 ⟨Nat.le_of_ble_eq_true rfl, Nat.le_of_ble_eq_true rfl⟩) hS hA (fun locs hS => ?_)
          refine lv_istore (lv' := [(7, .int (nI (eoS (fun w => drk ((f 5) t) w ((f 7) t) (k 5)) (drk ((f 5) t) fr ((f 7) t) (k 5)) (gr - fr) fr))), (0, .ref (ad 0)), (1, .int (nI t)), (3, .int (nI gr)), (4, .int (nI mo)), (5, .int (nI fr)), (6, .int (nI sp))]) hx hb dX4_leftAtWorst_48 hl (by decide) rfl (fun ls hl => ?_)
          refine lv_iload hx hb dX4_leftAtWorst_50 (lv_at hl 4 rfl) ?_
          refine lv_iload hx hb dX4_leftAtWorst_52 (lv_at hl 0 rfl) ?_
          refine lv_iload hx hb dX4_leftAtWorst_54 (lv_at hl 5 rfl) ?_
          refine n_isub hx hb dX4_leftAtWorst_56 (by omega) ?_
          refine lv_iconst (v := nI (1)) hx hb dX4_leftAtWorst_57 (by decide) ?_
          refine n_iadd hx hb dX4_leftAtWorst_58 ?_
          refine va_mmax hx hb (hml.trans hl.1.symm) hown (hts _ (List.mem_cons_of_mem _ wt_438)) (hts _ (List.mem_cons_of_mem _ wt_84)) (hts _ (List.mem_cons_of_mem _ wt_55)) (hts _ (List.mem_cons_of_mem _ wt_85)) (Nat.le_of_ble_eq_true rfl) (Nat.le_of_ble_eq_true rfl) (Nat.le_of_ble_eq_true rfl) (Nat.le_of_ble_eq_true rfl) dX4_leftAtWorst_59 ?_
          refine n_tope (max_nI (by omega) (by omega)) ?_
          refine lv_istore (lv' := [(4, .int (nI (Nat.max mo (((eoS (fun w => drk ((f 5) t) w ((f 7) t) (k 5)) (drk ((f 5) t) fr ((f 7) t) (k 5)) (gr - fr) fr) - fr) + 1)))), (7, .int (nI (eoS (fun w => drk ((f 5) t) w ((f 7) t) (k 5)) (drk ((f 5) t) fr ((f 7) t) (k 5)) (gr - fr) fr))), (0, .ref (ad 0)), (1, .int (nI t)), (3, .int (nI gr)), (5, .int (nI fr)), (6, .int (nI sp))]) hx hb dX4_leftAtWorst_62 hl (by decide) rfl (fun ls hl => ?_)
          refine lv_iload hx hb dX4_leftAtWorst_64 (lv_at hl 1 rfl) ?_
          refine lv_iconst (v := nI (1)) hx hb dX4_leftAtWorst_66 (by decide) ?_
          refine n_iadd hx hb dX4_leftAtWorst_67 ?_
          refine lv_istore (lv' := [(5, .int (nI ((eoS (fun w => drk ((f 5) t) w ((f 7) t) (k 5)) (drk ((f 5) t) fr ((f 7) t) (k 5)) (gr - fr) fr) + 1))), (4, .int (nI (Nat.max mo (((eoS (fun w => drk ((f 5) t) w ((f 7) t) (k 5)) (drk ((f 5) t) fr ((f 7) t) (k 5)) (gr - fr) fr) - fr) + 1)))), (7, .int (nI (eoS (fun w => drk ((f 5) t) w ((f 7) t) (k 5)) (drk ((f 5) t) fr ((f 7) t) (k 5)) (gr - fr) fr))), (0, .ref (ad 0)), (1, .int (nI t)), (3, .int (nI gr)), (6, .int (nI sp))]) hx hb dX4_leftAtWorst_68 hl (by decide) rfl (fun ls hl => ?_)
          refine lv_iinc (v := nI (sp + 1)) (lv' := [(6, .int (nI (sp + 1))), (5, .int (nI ((eoS (fun w => drk ((f 5) t) w ((f 7) t) (k 5)) (drk ((f 5) t) fr ((f 7) t) (k 5)) (gr - fr) fr) + 1))), (4, .int (nI (Nat.max mo (((eoS (fun w => drk ((f 5) t) w ((f 7) t) (k 5)) (drk ((f 5) t) fr ((f 7) t) (k 5)) (gr - fr) fr) - fr) + 1)))), (7, .int (nI (eoS (fun w => drk ((f 5) t) w ((f 7) t) (k 5)) (drk ((f 5) t) fr ((f 7) t) (k 5)) (gr - fr) fr))), (0, .ref (ad 0)), (1, .int (nI t)), (3, .int (nI gr))]) hx hb dX4_leftAtWorst_70 hl (k := 6) rfl (nI_inc _ _) (by decide) rfl (fun ls hl => ?_)
          refine lv_goto (tgt := 9) hx hb dX4_leftAtWorst_73 (by decide) ?_
          exact ih_2 (sp + 1) (eoS (fun w => drk (f 5 t) w (f 7 t) (k 5)) (drk (f 5 t) fr (f 7 t) (k 5)) (gr - fr) fr + 1) (Nat.max mo (eoS (fun w => drk (f 5 t) w (f 7 t) (k 5)) (drk (f 5 t) fr (f 7 t) (k 5)) (gr - fr) fr - fr + 1)) (by omega) (by omega) (Nat.max_le.mpr ⟨by omega, by omega⟩) (by rw [hu, show 61 - sp = (61 - (sp + 1)) + 1 by omega, lwS, if_pos c_19]) (by omega) locs hS _ (lv_sub hl [4, 5, 6, 2, 1, 0] rfl)
  exact loop_1 (61 - 0 + 1) (0) (fi) (0) (by omega) (by omega) (by omega) (rfl) (Nat.lt_succ_self _) locs hS _ (lv_sub hl [3, 4, 6, 2, 1, 0] rfl)
end
