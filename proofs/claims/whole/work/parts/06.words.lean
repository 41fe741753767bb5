def WT : List Cond := lw_tbl.filter goodWord
theorem wt_of {i : Nat} {w : Cond} (h : lw_tbl[i]? = some w) (g : goodWord w = true) : w ∈ WT := List.mem_filter.mpr ⟨List.mem_of_getElem? h, g⟩
theorem wt_0 : Cond.selects RX2 yX2_beginAnew yX2_beginAnew ∈ WT := wt_of (i := 0) (by decide +kernel) (by decide +kernel)
theorem wt_1 : Cond.selects RX2 yX2_readToken yX2_readToken ∈ WT := wt_of (i := 1) (by decide +kernel) (by decide +kernel)
theorem wt_2 : Cond.selects RX2 yX2_readDigits yX2_readDigits ∈ WT := wt_of (i := 2) (by decide +kernel) (by decide +kernel)
theorem wt_3 : Cond.selects RX2 yX2_readLetters yX2_readLetters ∈ WT := wt_of (i := 3) (by decide +kernel) (by decide +kernel)
theorem wt_4 : Cond.selects RX2 yX2_isWord yX2_isWord ∈ WT := wt_of (i := 4) (by decide +kernel) (by decide +kernel)
theorem wt_5 : Cond.selects RX2 yX2_readsLoad yX2_readsLoad ∈ WT := wt_of (i := 5) (by decide +kernel) (by decide +kernel)
theorem wt_6 : Cond.selects RX2 yX2_readsNumber yX2_readsNumber ∈ WT := wt_of (i := 6) (by decide +kernel) (by decide +kernel)
theorem wt_7 : Cond.selects RX2 yX2_readsEndOfItem yX2_readsEndOfItem ∈ WT := wt_of (i := 7) (by decide +kernel) (by decide +kernel)
theorem wt_8 : Cond.selects RX2 yX2_readsTaster yX2_readsTaster ∈ WT := wt_of (i := 8) (by decide +kernel) (by decide +kernel)
theorem wt_9 : Cond.selects RX2 yX2_readsHeat yX2_readsHeat ∈ WT := wt_of (i := 9) (by decide +kernel) (by decide +kernel)
theorem wt_10 : Cond.selects RX4 yX4_isLoad yX4_isLoad ∈ WT := wt_of (i := 10) (by decide +kernel) (by decide +kernel)
theorem wt_11 : Cond.selects RX4 yX4_isTaster yX4_isTaster ∈ WT := wt_of (i := 11) (by decide +kernel) (by decide +kernel)
theorem wt_12 : Cond.selects RX4 yX4_facts yX4_facts ∈ WT := wt_of (i := 12) (by decide +kernel) (by decide +kernel)
theorem wt_13 : Cond.selects RX4 yX4_thirst yX4_thirst ∈ WT := wt_of (i := 13) (by decide +kernel) (by decide +kernel)
theorem wt_14 : Cond.selects RX4 yX4_addFact yX4_addFact ∈ WT := wt_of (i := 14) (by decide +kernel) (by decide +kernel)
theorem wt_15 : Cond.selects RX4 yX4_addLick yX4_addLick ∈ WT := wt_of (i := 15) (by decide +kernel) (by decide +kernel)
theorem wt_16 : Cond.selects RX4 yX4_fact yX4_fact ∈ WT := wt_of (i := 16) (by decide +kernel) (by decide +kernel)
theorem wt_17 : Cond.selects RX4 yX4_greatestOf yX4_greatestOf ∈ WT := wt_of (i := 17) (by decide +kernel) (by decide +kernel)
theorem wt_18 : Cond.selects RX4 yX4_canWeigh yX4_canWeigh ∈ WT := wt_of (i := 18) (by decide +kernel) (by decide +kernel)
theorem wt_19 : Cond.selects RX4 yX4_drinksIn yX4_drinksIn ∈ WT := wt_of (i := 19) (by decide +kernel) (by decide +kernel)
theorem wt_20 : Cond.selects RX4 yX4_leastOf yX4_leastOf ∈ WT := wt_of (i := 20) (by decide +kernel) (by decide +kernel)
theorem wt_21 : Cond.selects RX4 yX4_leftAtWorst yX4_leftAtWorst ∈ WT := wt_of (i := 21) (by decide +kernel) (by decide +kernel)
theorem wt_22 : Cond.selects RX4 yX4_endOfSpan yX4_endOfSpan ∈ WT := wt_of (i := 22) (by decide +kernel) (by decide +kernel)
theorem wt_23 : Cond.selects RX4 yX4_isEnough yX4_isEnough ∈ WT := wt_of (i := 23) (by decide +kernel) (by decide +kernel)
theorem wt_24 : Cond.selects RX4 yX4_isEnoughBy yX4_isEnoughBy ∈ WT := wt_of (i := 24) (by decide +kernel) (by decide +kernel)
theorem wt_25 : Cond.selects RX4 yX4_toldTastings yX4_toldTastings ∈ WT := wt_of (i := 25) (by decide +kernel) (by decide +kernel)
theorem wt_26 : Cond.selects RX4 yX4_isAsTold yX4_isAsTold ∈ WT := wt_of (i := 26) (by decide +kernel) (by decide +kernel)
theorem wt_27 : Cond.selects RX4 yX4_markOfTaster yX4_markOfTaster ∈ WT := wt_of (i := 27) (by decide +kernel) (by decide +kernel)
theorem wt_28 : Cond.selects RX4 yX4_markOfCamel yX4_markOfCamel ∈ WT := wt_of (i := 28) (by decide +kernel) (by decide +kernel)
theorem wt_29 : Cond.selects RX4 yX4_markOfChild yX4_markOfChild ∈ WT := wt_of (i := 29) (by decide +kernel) (by decide +kernel)
theorem wt_30 : Cond.selects RX4 yX4_markOfFeverish yX4_markOfFeverish ∈ WT := wt_of (i := 30) (by decide +kernel) (by decide +kernel)
theorem wt_31 : Cond.selects RX4 yX4_markOfInspector yX4_markOfInspector ∈ WT := wt_of (i := 31) (by decide +kernel) (by decide +kernel)
theorem wt_32 : Cond.selects RX4 yX4_markOfWell yX4_markOfWell ∈ WT := wt_of (i := 32) (by decide +kernel) (by decide +kernel)
theorem wt_33 : Cond.selects RX4 yX4_imageAt yX4_imageAt ∈ WT := wt_of (i := 33) (by decide +kernel) (by decide +kernel)
theorem wt_34 : Cond.selects RX5 yX5_step yX5_step ∈ WT := wt_of (i := 34) (by decide +kernel) (by decide +kernel)
theorem wt_35 : Cond.selects RX5 yX5_here yX5_here ∈ WT := wt_of (i := 35) (by decide +kernel) (by decide +kernel)
theorem wt_36 : Cond.selects RX5 yX5_readItem yX5_readItem ∈ WT := wt_of (i := 36) (by decide +kernel) (by decide +kernel)
theorem wt_37 : Cond.selects RX5 yX5_due yX5_due ∈ WT := wt_of (i := 37) (by decide +kernel) (by decide +kernel)
theorem wt_38 : Cond.selects RX5 yX5_number yX5_number ∈ WT := wt_of (i := 38) (by decide +kernel) (by decide +kernel)
theorem wt_39 : Cond.selects RX5 yX5_isLoad yX5_isLoad ∈ WT := wt_of (i := 39) (by decide +kernel) (by decide +kernel)
theorem wt_40 : Cond.selects RX5 yX5_isTaster yX5_isTaster ∈ WT := wt_of (i := 40) (by decide +kernel) (by decide +kernel)
theorem wt_41 : Cond.selects RX5 yX5_cupsOf yX5_cupsOf ∈ WT := wt_of (i := 41) (by decide +kernel) (by decide +kernel)
theorem wt_42 : Cond.selects RX5 yX5_know yX5_know ∈ WT := wt_of (i := 42) (by decide +kernel) (by decide +kernel)
theorem wt_43 : Cond.selects RX5 yX5_canBeOf yX5_canBeOf ∈ WT := wt_of (i := 43) (by decide +kernel) (by decide +kernel)
theorem wt_44 : Cond.selects RX5 yX5_worst yX5_worst ∈ WT := wt_of (i := 44) (by decide +kernel) (by decide +kernel)
theorem wt_45 : Cond.selects RX5 yX5_part yX5_part ∈ WT := wt_of (i := 45) (by decide +kernel) (by decide +kernel)
theorem wt_46 : Cond.selects RX5 yX5_isEnoughByOne yX5_isEnoughByOne ∈ WT := wt_of (i := 46) (by decide +kernel) (by decide +kernel)
theorem wt_47 : Cond.selects RX5 yX5_isEnoughByTwo yX5_isEnoughByTwo ∈ WT := wt_of (i := 47) (by decide +kernel) (by decide +kernel)
theorem wt_48 : Cond.selects RX5 yX5_isEnoughByThree yX5_isEnoughByThree ∈ WT := wt_of (i := 48) (by decide +kernel) (by decide +kernel)
theorem wt_49 : Cond.selects RX5 yX5_isAsTold yX5_isAsTold ∈ WT := wt_of (i := 49) (by decide +kernel) (by decide +kernel)
theorem wt_50 : Cond.selects RX5 yX5_copy yX5_copy ∈ WT := wt_of (i := 50) (by decide +kernel) (by decide +kernel)
theorem wt_51 : Cond.initialized RL ∈ WT := wt_of (i := 51) (by decide +kernel) (by decide +kernel)
theorem wt_52 : Cond.initialized RX4 ∈ WT := wt_of (i := 52) (by decide +kernel) (by decide +kernel)
theorem wt_53 : Cond.initialized RX2 ∈ WT := wt_of (i := 53) (by decide +kernel) (by decide +kernel)
theorem wt_54 : Cond.initialized RX3 ∈ WT := wt_of (i := 54) (by decide +kernel) (by decide +kernel)
theorem wt_55 : Cond.initialized RJ9 ∈ WT := wt_of (i := 55) (by decide +kernel) (by decide +kernel)
theorem wt_56 : Cond.initialized RX1 ∈ WT := wt_of (i := 56) (by decide +kernel) (by decide +kernel)
theorem wt_57 : Cond.initialized RX5 ∈ WT := wt_of (i := 57) (by decide +kernel) (by decide +kernel)
theorem wt_58 : Cond.initialized RJ0 ∈ WT := wt_of (i := 58) (by decide +kernel) (by decide +kernel)
theorem wt_59 : Cond.initialized RJ1 ∈ WT := wt_of (i := 59) (by decide +kernel) (by decide +kernel)
theorem wt_60 : Cond.initialized RJ3 ∈ WT := wt_of (i := 60) (by decide +kernel) (by decide +kernel)
theorem wt_61 : Cond.initialized RJ2 ∈ WT := wt_of (i := 61) (by decide +kernel) (by decide +kernel)
theorem wt_62 : Cond.initialized RX0 ∈ WT := wt_of (i := 62) (by decide +kernel) (by decide +kernel)
theorem wt_63 : Cond.classLink RL 7 "ThirstScales" ∈ WT := wt_of (i := 63) (by decide +kernel) (by decide +kernel)
theorem wt_64 : Cond.instantiable RX4 10 ∈ WT := wt_of (i := 64) (by decide +kernel) (by decide +kernel)
theorem wt_65 : Cond.methodLink RL 9 yX4_init ∈ WT := wt_of (i := 65) (by decide +kernel) (by decide +kernel)
theorem wt_66 : Cond.instanceMethod yX4_init ∈ WT := wt_of (i := 66) (by decide +kernel) (by decide +kernel)
theorem wt_67 : Cond.code yX4_init cX4_init 1 (Option.none : Option FieldType) ∈ WT := wt_of (i := 67) (by decide +kernel) (by decide +kernel)
theorem wt_68 : Cond.methodLink RX4 1 objectInit ∈ WT := wt_of (i := 68) (by decide +kernel) (by decide +kernel)
theorem wt_69 : Cond.instanceMethod objectInit ∈ WT := wt_of (i := 69) (by decide +kernel) (by decide +kernel)
theorem wt_70 : Cond.code objectInit ⟨#[0xb1]⟩ 1 (Option.none : Option FieldType) ∈ WT := wt_of (i := 70) (by decide +kernel) (by decide +kernel)
theorem wt_71 : Cond.classLink RX4 7 "ThirstScales$Reader" ∈ WT := wt_of (i := 71) (by decide +kernel) (by decide +kernel)
theorem wt_72 : Cond.instantiable RX2 11 ∈ WT := wt_of (i := 72) (by decide +kernel) (by decide +kernel)
theorem wt_74 : Cond.instanceMethod yX2_init ∈ WT := wt_of (i := 74) (by decide +kernel) (by decide +kernel)
theorem wt_75 : Cond.code yX2_init cX2_init 1 (Option.none : Option FieldType) ∈ WT := wt_of (i := 75) (by decide +kernel) (by decide +kernel)
theorem wt_76 : Cond.methodLink RX2 3 objectInit ∈ WT := wt_of (i := 76) (by decide +kernel) (by decide +kernel)
theorem wt_77 : Cond.classLink RX2 9 "ThirstScales$Row" ∈ WT := wt_of (i := 77) (by decide +kernel) (by decide +kernel)
theorem wt_78 : Cond.instantiable RX3 2 ∈ WT := wt_of (i := 78) (by decide +kernel) (by decide +kernel)
theorem wt_79 : Cond.methodLink RX2 11 yX3_init ∈ WT := wt_of (i := 79) (by decide +kernel) (by decide +kernel)
theorem wt_80 : Cond.instanceMethod yX3_init ∈ WT := wt_of (i := 80) (by decide +kernel) (by decide +kernel)
theorem wt_81 : Cond.code yX3_init cX3_init 2 (Option.none : Option FieldType) ∈ WT := wt_of (i := 81) (by decide +kernel) (by decide +kernel)
theorem wt_82 : Cond.methodLink RX3 1 objectInit ∈ WT := wt_of (i := 82) (by decide +kernel) (by decide +kernel)
theorem wt_83 : Cond.methodLink RX3 13 Lib.Math.max.name ∈ WT := wt_of (i := 83) (by decide +kernel) (by decide +kernel)
theorem wt_84 : Cond.static Lib.Math.max.name ∈ WT := wt_of (i := 84) (by decide +kernel) (by decide +kernel)
theorem wt_85 : Cond.code Lib.Math.max.name Lib.Math.max.code 2 (Option.some FieldType.int) ∈ WT := wt_of (i := 85) (by decide +kernel) (by decide +kernel)
theorem wt_86 : Cond.fieldLink RX3 19 "ThirstScales$Row" "cells" "[I" ∈ WT := wt_of (i := 86) (by decide +kernel) (by decide +kernel)
theorem wt_87 : Cond.fieldLink RX3 7 "ThirstScales$Row" "used" "I" ∈ WT := wt_of (i := 87) (by decide +kernel) (by decide +kernel)
theorem wt_88 : Cond.laysFinal "ThirstScales$Row" "ThirstScales$Row" "cells" "[I" ∈ WT := wt_of (i := 88) (by decide +kernel) (by decide +kernel)
theorem wt_89 : Cond.soleField "ThirstScales$Row" "cells" ∈ WT := wt_of (i := 89) (by decide +kernel) (by decide +kernel)
theorem wt_90 : Cond.lays "ThirstScales$Row" "ThirstScales$Row" "used" "I" ∈ WT := wt_of (i := 90) (by decide +kernel) (by decide +kernel)
theorem wt_91 : Cond.soleField "ThirstScales$Row" "used" ∈ WT := wt_of (i := 91) (by decide +kernel) (by decide +kernel)
theorem wt_92 : Cond.superclass "ThirstScales$Row" "java/lang/Object" ∈ WT := wt_of (i := 92) (by decide +kernel) (by decide +kernel)
theorem wt_93 : Cond.arrayClass FieldType.int ∈ WT := wt_of (i := 93) (by decide +kernel) (by decide +kernel)
theorem wt_94 : Cond.fieldLink RX2 14 "ThirstScales$Reader" "text" "LThirstScales$Row;" ∈ WT := wt_of (i := 94) (by decide +kernel) (by decide +kernel)
theorem wt_95 : Cond.fieldLink RX4 59 "ThirstScales$Reader" "text" "LThirstScales$Row;" ∈ WT := wt_of (i := 95) (by decide +kernel) (by decide +kernel)
theorem wt_96 : Cond.fieldLink RX2 20 "ThirstScales$Reader" "weights" "LThirstScales$Row;" ∈ WT := wt_of (i := 96) (by decide +kernel) (by decide +kernel)
theorem wt_97 : Cond.fieldLink RX4 81 "ThirstScales$Reader" "weights" "LThirstScales$Row;" ∈ WT := wt_of (i := 97) (by decide +kernel) (by decide +kernel)
theorem wt_98 : Cond.fieldLink RX2 23 "ThirstScales$Reader" "laws" "LThirstScales$Row;" ∈ WT := wt_of (i := 98) (by decide +kernel) (by decide +kernel)
theorem wt_99 : Cond.fieldLink RX4 86 "ThirstScales$Reader" "laws" "LThirstScales$Row;" ∈ WT := wt_of (i := 99) (by decide +kernel) (by decide +kernel)
theorem wt_100 : Cond.fieldLink RX2 26 "ThirstScales$Reader" "warmth" "I" ∈ WT := wt_of (i := 100) (by decide +kernel) (by decide +kernel)
theorem wt_101 : Cond.fieldLink RX4 87 "ThirstScales$Reader" "warmth" "I" ∈ WT := wt_of (i := 101) (by decide +kernel) (by decide +kernel)
theorem wt_102 : Cond.fieldLink RX2 30 "ThirstScales$Reader" "items" "I" ∈ WT := wt_of (i := 102) (by decide +kernel) (by decide +kernel)
theorem wt_103 : Cond.fieldLink RX4 95 "ThirstScales$Reader" "items" "I" ∈ WT := wt_of (i := 103) (by decide +kernel) (by decide +kernel)
theorem wt_104 : Cond.fieldLink RX2 35 "ThirstScales$Reader" "parts" "LThirstScales$Row;" ∈ WT := wt_of (i := 104) (by decide +kernel) (by decide +kernel)
theorem wt_105 : Cond.fieldLink RX2 38 "ThirstScales$Reader" "heatIsTold" "Z" ∈ WT := wt_of (i := 105) (by decide +kernel) (by decide +kernel)
theorem wt_106 : Cond.fieldLink RX2 42 "ThirstScales$Reader" "place" "I" ∈ WT := wt_of (i := 106) (by decide +kernel) (by decide +kernel)
theorem wt_107 : Cond.fieldLink RX2 45 "ThirstScales$Reader" "start" "I" ∈ WT := wt_of (i := 107) (by decide +kernel) (by decide +kernel)
theorem wt_108 : Cond.fieldLink RX2 48 "ThirstScales$Reader" "token" "I" ∈ WT := wt_of (i := 108) (by decide +kernel) (by decide +kernel)
theorem wt_109 : Cond.fieldLink RX2 51 "ThirstScales$Reader" "value" "I" ∈ WT := wt_of (i := 109) (by decide +kernel) (by decide +kernel)
theorem wt_110 : Cond.laysFinal "ThirstScales$Reader" "ThirstScales$Reader" "text" "LThirstScales$Row;" ∈ WT := wt_of (i := 110) (by decide +kernel) (by decide +kernel)
theorem wt_111 : Cond.soleField "ThirstScales$Reader" "text" ∈ WT := wt_of (i := 111) (by decide +kernel) (by decide +kernel)
theorem wt_112 : Cond.laysFinal "ThirstScales$Reader" "ThirstScales$Reader" "weights" "LThirstScales$Row;" ∈ WT := wt_of (i := 112) (by decide +kernel) (by decide +kernel)
theorem wt_113 : Cond.soleField "ThirstScales$Reader" "weights" ∈ WT := wt_of (i := 113) (by decide +kernel) (by decide +kernel)
theorem wt_114 : Cond.laysFinal "ThirstScales$Reader" "ThirstScales$Reader" "laws" "LThirstScales$Row;" ∈ WT := wt_of (i := 114) (by decide +kernel) (by decide +kernel)
theorem wt_115 : Cond.soleField "ThirstScales$Reader" "laws" ∈ WT := wt_of (i := 115) (by decide +kernel) (by decide +kernel)
theorem wt_116 : Cond.lays "ThirstScales$Reader" "ThirstScales$Reader" "warmth" "I" ∈ WT := wt_of (i := 116) (by decide +kernel) (by decide +kernel)
theorem wt_117 : Cond.soleField "ThirstScales$Reader" "warmth" ∈ WT := wt_of (i := 117) (by decide +kernel) (by decide +kernel)
theorem wt_118 : Cond.lays "ThirstScales$Reader" "ThirstScales$Reader" "items" "I" ∈ WT := wt_of (i := 118) (by decide +kernel) (by decide +kernel)
theorem wt_119 : Cond.soleField "ThirstScales$Reader" "items" ∈ WT := wt_of (i := 119) (by decide +kernel) (by decide +kernel)
theorem wt_120 : Cond.laysFinal "ThirstScales$Reader" "ThirstScales$Reader" "parts" "LThirstScales$Row;" ∈ WT := wt_of (i := 120) (by decide +kernel) (by decide +kernel)
theorem wt_121 : Cond.soleField "ThirstScales$Reader" "parts" ∈ WT := wt_of (i := 121) (by decide +kernel) (by decide +kernel)
theorem wt_122 : Cond.lays "ThirstScales$Reader" "ThirstScales$Reader" "heatIsTold" "Z" ∈ WT := wt_of (i := 122) (by decide +kernel) (by decide +kernel)
theorem wt_123 : Cond.soleField "ThirstScales$Reader" "heatIsTold" ∈ WT := wt_of (i := 123) (by decide +kernel) (by decide +kernel)
theorem wt_124 : Cond.lays "ThirstScales$Reader" "ThirstScales$Reader" "place" "I" ∈ WT := wt_of (i := 124) (by decide +kernel) (by decide +kernel)
theorem wt_125 : Cond.soleField "ThirstScales$Reader" "place" ∈ WT := wt_of (i := 125) (by decide +kernel) (by decide +kernel)
theorem wt_126 : Cond.lays "ThirstScales$Reader" "ThirstScales$Reader" "start" "I" ∈ WT := wt_of (i := 126) (by decide +kernel) (by decide +kernel)
theorem wt_127 : Cond.soleField "ThirstScales$Reader" "start" ∈ WT := wt_of (i := 127) (by decide +kernel) (by decide +kernel)
theorem wt_128 : Cond.lays "ThirstScales$Reader" "ThirstScales$Reader" "token" "I" ∈ WT := wt_of (i := 128) (by decide +kernel) (by decide +kernel)
theorem wt_129 : Cond.soleField "ThirstScales$Reader" "token" ∈ WT := wt_of (i := 129) (by decide +kernel) (by decide +kernel)
theorem wt_130 : Cond.lays "ThirstScales$Reader" "ThirstScales$Reader" "value" "I" ∈ WT := wt_of (i := 130) (by decide +kernel) (by decide +kernel)
theorem wt_131 : Cond.soleField "ThirstScales$Reader" "value" ∈ WT := wt_of (i := 131) (by decide +kernel) (by decide +kernel)
theorem wt_132 : Cond.superclass "ThirstScales$Reader" "java/lang/Object" ∈ WT := wt_of (i := 132) (by decide +kernel) (by decide +kernel)
theorem wt_133 : Cond.classLink RX4 16 "ThirstScales$Row" ∈ WT := wt_of (i := 133) (by decide +kernel) (by decide +kernel)
theorem wt_134 : Cond.methodLink RX4 18 yX3_init ∈ WT := wt_of (i := 134) (by decide +kernel) (by decide +kernel)
theorem wt_135 : Cond.classLink RX4 31 "ThirstScales$Now" ∈ WT := wt_of (i := 135) (by decide +kernel) (by decide +kernel)
theorem wt_136 : Cond.instantiable RX1 3 ∈ WT := wt_of (i := 136) (by decide +kernel) (by decide +kernel)
theorem wt_138 : Cond.instanceMethod yX1_init ∈ WT := wt_of (i := 138) (by decide +kernel) (by decide +kernel)
theorem wt_139 : Cond.code yX1_init cX1_init 1 (Option.none : Option FieldType) ∈ WT := wt_of (i := 139) (by decide +kernel) (by decide +kernel)
theorem wt_140 : Cond.methodLink RX1 3 objectInit ∈ WT := wt_of (i := 140) (by decide +kernel) (by decide +kernel)
theorem wt_141 : Cond.classLink RX1 9 "ThirstScales$Row" ∈ WT := wt_of (i := 141) (by decide +kernel) (by decide +kernel)
theorem wt_142 : Cond.methodLink RX1 11 yX3_init ∈ WT := wt_of (i := 142) (by decide +kernel) (by decide +kernel)
theorem wt_143 : Cond.fieldLink RX1 14 "ThirstScales$Now" "licks" "LThirstScales$Row;" ∈ WT := wt_of (i := 143) (by decide +kernel) (by decide +kernel)
theorem wt_144 : Cond.fieldLink RX4 109 "ThirstScales$Now" "licks" "LThirstScales$Row;" ∈ WT := wt_of (i := 144) (by decide +kernel) (by decide +kernel)
theorem wt_145 : Cond.fieldLink RX1 20 "ThirstScales$Now" "facts" "LThirstScales$Row;" ∈ WT := wt_of (i := 145) (by decide +kernel) (by decide +kernel)
theorem wt_146 : Cond.fieldLink RX4 153 "ThirstScales$Now" "facts" "LThirstScales$Row;" ∈ WT := wt_of (i := 146) (by decide +kernel) (by decide +kernel)
theorem wt_147 : Cond.fieldLink RX1 23 "ThirstScales$Now" "warmth" "I" ∈ WT := wt_of (i := 147) (by decide +kernel) (by decide +kernel)
theorem wt_148 : Cond.fieldLink RX4 121 "ThirstScales$Now" "warmth" "I" ∈ WT := wt_of (i := 148) (by decide +kernel) (by decide +kernel)
theorem wt_149 : Cond.laysFinal "ThirstScales$Now" "ThirstScales$Now" "licks" "LThirstScales$Row;" ∈ WT := wt_of (i := 149) (by decide +kernel) (by decide +kernel)
theorem wt_150 : Cond.soleField "ThirstScales$Now" "licks" ∈ WT := wt_of (i := 150) (by decide +kernel) (by decide +kernel)
theorem wt_151 : Cond.laysFinal "ThirstScales$Now" "ThirstScales$Now" "facts" "LThirstScales$Row;" ∈ WT := wt_of (i := 151) (by decide +kernel) (by decide +kernel)
theorem wt_152 : Cond.soleField "ThirstScales$Now" "facts" ∈ WT := wt_of (i := 152) (by decide +kernel) (by decide +kernel)
theorem wt_153 : Cond.lays "ThirstScales$Now" "ThirstScales$Now" "warmth" "I" ∈ WT := wt_of (i := 153) (by decide +kernel) (by decide +kernel)
theorem wt_154 : Cond.soleField "ThirstScales$Now" "warmth" ∈ WT := wt_of (i := 154) (by decide +kernel) (by decide +kernel)
theorem wt_155 : Cond.superclass "ThirstScales$Now" "java/lang/Object" ∈ WT := wt_of (i := 155) (by decide +kernel) (by decide +kernel)
theorem wt_156 : Cond.fieldLink RX4 10 "ThirstScales" "reader" "LThirstScales$Reader;" ∈ WT := wt_of (i := 156) (by decide +kernel) (by decide +kernel)
theorem wt_157 : Cond.fieldLink RX4 21 "ThirstScales" "weights" "LThirstScales$Row;" ∈ WT := wt_of (i := 157) (by decide +kernel) (by decide +kernel)
theorem wt_158 : Cond.fieldLink RX4 25 "ThirstScales" "laws" "LThirstScales$Row;" ∈ WT := wt_of (i := 158) (by decide +kernel) (by decide +kernel)
theorem wt_159 : Cond.fieldLink RX4 28 "ThirstScales" "tastings" "LThirstScales$Row;" ∈ WT := wt_of (i := 159) (by decide +kernel) (by decide +kernel)
theorem wt_160 : Cond.fieldLink RX4 34 "ThirstScales" "now" "LThirstScales$Now;" ∈ WT := wt_of (i := 160) (by decide +kernel) (by decide +kernel)
theorem wt_161 : Cond.fieldLink RX4 38 "ThirstScales" "firstImage" "LThirstScales$Now;" ∈ WT := wt_of (i := 161) (by decide +kernel) (by decide +kernel)
theorem wt_162 : Cond.fieldLink RX4 41 "ThirstScales" "secondImage" "LThirstScales$Now;" ∈ WT := wt_of (i := 162) (by decide +kernel) (by decide +kernel)
theorem wt_163 : Cond.fieldLink RX4 44 "ThirstScales" "firstIsKept" "Z" ∈ WT := wt_of (i := 163) (by decide +kernel) (by decide +kernel)
theorem wt_164 : Cond.fieldLink RX4 48 "ThirstScales" "secondIsKept" "Z" ∈ WT := wt_of (i := 164) (by decide +kernel) (by decide +kernel)
theorem wt_165 : Cond.fieldLink RX4 51 "ThirstScales" "marksAsked" "J" ∈ WT := wt_of (i := 165) (by decide +kernel) (by decide +kernel)
theorem wt_166 : Cond.laysFinal "ThirstScales" "ThirstScales" "reader" "LThirstScales$Reader;" ∈ WT := wt_of (i := 166) (by decide +kernel) (by decide +kernel)
theorem wt_167 : Cond.soleField "ThirstScales" "reader" ∈ WT := wt_of (i := 167) (by decide +kernel) (by decide +kernel)
theorem wt_168 : Cond.laysFinal "ThirstScales" "ThirstScales" "weights" "LThirstScales$Row;" ∈ WT := wt_of (i := 168) (by decide +kernel) (by decide +kernel)
theorem wt_169 : Cond.soleField "ThirstScales" "weights" ∈ WT := wt_of (i := 169) (by decide +kernel) (by decide +kernel)
theorem wt_170 : Cond.laysFinal "ThirstScales" "ThirstScales" "laws" "LThirstScales$Row;" ∈ WT := wt_of (i := 170) (by decide +kernel) (by decide +kernel)
theorem wt_171 : Cond.soleField "ThirstScales" "laws" ∈ WT := wt_of (i := 171) (by decide +kernel) (by decide +kernel)
theorem wt_172 : Cond.laysFinal "ThirstScales" "ThirstScales" "tastings" "LThirstScales$Row;" ∈ WT := wt_of (i := 172) (by decide +kernel) (by decide +kernel)
theorem wt_173 : Cond.soleField "ThirstScales" "tastings" ∈ WT := wt_of (i := 173) (by decide +kernel) (by decide +kernel)
theorem wt_174 : Cond.laysFinal "ThirstScales" "ThirstScales" "now" "LThirstScales$Now;" ∈ WT := wt_of (i := 174) (by decide +kernel) (by decide +kernel)
theorem wt_175 : Cond.soleField "ThirstScales" "now" ∈ WT := wt_of (i := 175) (by decide +kernel) (by decide +kernel)
theorem wt_176 : Cond.laysFinal "ThirstScales" "ThirstScales" "firstImage" "LThirstScales$Now;" ∈ WT := wt_of (i := 176) (by decide +kernel) (by decide +kernel)
theorem wt_177 : Cond.soleField "ThirstScales" "firstImage" ∈ WT := wt_of (i := 177) (by decide +kernel) (by decide +kernel)
theorem wt_178 : Cond.laysFinal "ThirstScales" "ThirstScales" "secondImage" "LThirstScales$Now;" ∈ WT := wt_of (i := 178) (by decide +kernel) (by decide +kernel)
theorem wt_179 : Cond.soleField "ThirstScales" "secondImage" ∈ WT := wt_of (i := 179) (by decide +kernel) (by decide +kernel)
theorem wt_180 : Cond.lays "ThirstScales" "ThirstScales" "firstIsKept" "Z" ∈ WT := wt_of (i := 180) (by decide +kernel) (by decide +kernel)
theorem wt_181 : Cond.soleField "ThirstScales" "firstIsKept" ∈ WT := wt_of (i := 181) (by decide +kernel) (by decide +kernel)
theorem wt_182 : Cond.lays "ThirstScales" "ThirstScales" "secondIsKept" "Z" ∈ WT := wt_of (i := 182) (by decide +kernel) (by decide +kernel)
theorem wt_183 : Cond.soleField "ThirstScales" "secondIsKept" ∈ WT := wt_of (i := 183) (by decide +kernel) (by decide +kernel)
theorem wt_184 : Cond.lays "ThirstScales" "ThirstScales" "marksAsked" "J" ∈ WT := wt_of (i := 184) (by decide +kernel) (by decide +kernel)
theorem wt_185 : Cond.soleField "ThirstScales" "marksAsked" ∈ WT := wt_of (i := 185) (by decide +kernel) (by decide +kernel)
theorem wt_186 : Cond.superclass "ThirstScales" "java/lang/Object" ∈ WT := wt_of (i := 186) (by decide +kernel) (by decide +kernel)
theorem wt_187 : Cond.methodLink RL 15 yX4_type ∈ WT := wt_of (i := 187) (by decide +kernel) (by decide +kernel)
theorem wt_188 : Cond.instanceMethod yX4_type ∈ WT := wt_of (i := 188) (by decide +kernel) (by decide +kernel)
theorem wt_189 : Cond.selects RX4 yX4_type yX4_type ∈ WT := wt_of (i := 189) (by decide +kernel) (by decide +kernel)
theorem wt_190 : Cond.code yX4_type cX4_type 5 (Option.some FieldType.int) ∈ WT := wt_of (i := 190) (by decide +kernel) (by decide +kernel)
theorem wt_191 : Cond.methodLink RX4 55 yX4_isWithin ∈ WT := wt_of (i := 191) (by decide +kernel) (by decide +kernel)
theorem wt_192 : Cond.static yX4_isWithin ∈ WT := wt_of (i := 192) (by decide +kernel) (by decide +kernel)
theorem wt_193 : Cond.code yX4_isWithin cX4_isWithin 3 (Option.some FieldType.boolean) ∈ WT := wt_of (i := 193) (by decide +kernel) (by decide +kernel)
theorem wt_194 : Cond.methodLink RX4 62 yX3_size ∈ WT := wt_of (i := 194) (by decide +kernel) (by decide +kernel)
theorem wt_195 : Cond.instanceMethod yX3_size ∈ WT := wt_of (i := 195) (by decide +kernel) (by decide +kernel)
theorem wt_196 : Cond.selects RX3 yX3_size yX3_size ∈ WT := wt_of (i := 196) (by decide +kernel) (by decide +kernel)
theorem wt_197 : Cond.code yX3_size cX3_size 1 (Option.some FieldType.int) ∈ WT := wt_of (i := 197) (by decide +kernel) (by decide +kernel)
theorem wt_198 : Cond.constantLong RX4 66 (255 : Int64) ∈ WT := wt_of (i := 198) (by decide +kernel) (by decide +kernel)
theorem wt_199 : Cond.methodLink RX4 68 yX3_add ∈ WT := wt_of (i := 199) (by decide +kernel) (by decide +kernel)
theorem wt_200 : Cond.instanceMethod yX3_add ∈ WT := wt_of (i := 200) (by decide +kernel) (by decide +kernel)
theorem wt_201 : Cond.selects RX3 yX3_add yX3_add ∈ WT := wt_of (i := 201) (by decide +kernel) (by decide +kernel)
theorem wt_202 : Cond.code yX3_add cX3_add 2 (Option.none : Option FieldType) ∈ WT := wt_of (i := 202) (by decide +kernel) (by decide +kernel)
theorem wt_203 : Cond.methodLink RL 20 yX4_clear ∈ WT := wt_of (i := 203) (by decide +kernel) (by decide +kernel)
theorem wt_204 : Cond.instanceMethod yX4_clear ∈ WT := wt_of (i := 204) (by decide +kernel) (by decide +kernel)
theorem wt_205 : Cond.selects RX4 yX4_clear yX4_clear ∈ WT := wt_of (i := 205) (by decide +kernel) (by decide +kernel)
theorem wt_206 : Cond.code yX4_clear cX4_clear 2 (Option.some FieldType.int) ∈ WT := wt_of (i := 206) (by decide +kernel) (by decide +kernel)
theorem wt_207 : Cond.methodLink RX4 71 yX3_cutTo ∈ WT := wt_of (i := 207) (by decide +kernel) (by decide +kernel)
theorem wt_208 : Cond.instanceMethod yX3_cutTo ∈ WT := wt_of (i := 208) (by decide +kernel) (by decide +kernel)
theorem wt_209 : Cond.selects RX3 yX3_cutTo yX3_cutTo ∈ WT := wt_of (i := 209) (by decide +kernel) (by decide +kernel)
theorem wt_210 : Cond.code yX3_cutTo cX3_cutTo 2 (Option.none : Option FieldType) ∈ WT := wt_of (i := 210) (by decide +kernel) (by decide +kernel)
theorem wt_211 : Cond.methodLink RL 25 yX4_gate ∈ WT := wt_of (i := 211) (by decide +kernel) (by decide +kernel)
theorem wt_212 : Cond.instanceMethod yX4_gate ∈ WT := wt_of (i := 212) (by decide +kernel) (by decide +kernel)
theorem wt_213 : Cond.selects RX4 yX4_gate yX4_gate ∈ WT := wt_of (i := 213) (by decide +kernel) (by decide +kernel)
theorem wt_214 : Cond.code yX4_gate cX4_gate 1 (Option.some FieldType.int) ∈ WT := wt_of (i := 214) (by decide +kernel) (by decide +kernel)
theorem wt_215 : Cond.methodLink RX4 74 yX2_readsAll ∈ WT := wt_of (i := 215) (by decide +kernel) (by decide +kernel)
theorem wt_216 : Cond.instanceMethod yX2_readsAll ∈ WT := wt_of (i := 216) (by decide +kernel) (by decide +kernel)
theorem wt_217 : Cond.selects RX2 yX2_readsAll yX2_readsAll ∈ WT := wt_of (i := 217) (by decide +kernel) (by decide +kernel)
theorem wt_218 : Cond.code yX2_readsAll cX2_readsAll 3 (Option.some FieldType.boolean) ∈ WT := wt_of (i := 218) (by decide +kernel) (by decide +kernel)
theorem wt_219 : Cond.methodLink RX2 54 yX2_beginAnew ∈ WT := wt_of (i := 219) (by decide +kernel) (by decide +kernel)
theorem wt_221 : Cond.instanceMethod yX2_beginAnew ∈ WT := wt_of (i := 221) (by decide +kernel) (by decide +kernel)
theorem wt_222 : Cond.code yX2_beginAnew cX2_beginAnew 1 (Option.none : Option FieldType) ∈ WT := wt_of (i := 222) (by decide +kernel) (by decide +kernel)
theorem wt_223 : Cond.methodLink RX2 70 yX3_cutTo ∈ WT := wt_of (i := 223) (by decide +kernel) (by decide +kernel)
theorem wt_224 : Cond.methodLink RX2 57 yX2_readToken ∈ WT := wt_of (i := 224) (by decide +kernel) (by decide +kernel)
theorem wt_226 : Cond.instanceMethod yX2_readToken ∈ WT := wt_of (i := 226) (by decide +kernel) (by decide +kernel)
theorem wt_227 : Cond.code yX2_readToken cX2_readToken 1 (Option.none : Option FieldType) ∈ WT := wt_of (i := 227) (by decide +kernel) (by decide +kernel)
theorem wt_228 : Cond.methodLink RX2 73 yX3_size ∈ WT := wt_of (i := 228) (by decide +kernel) (by decide +kernel)
theorem wt_229 : Cond.methodLink RX2 94 yX3_at ∈ WT := wt_of (i := 229) (by decide +kernel) (by decide +kernel)
theorem wt_230 : Cond.instanceMethod yX3_at ∈ WT := wt_of (i := 230) (by decide +kernel) (by decide +kernel)
theorem wt_231 : Cond.selects RX3 yX3_at yX3_at ∈ WT := wt_of (i := 231) (by decide +kernel) (by decide +kernel)
theorem wt_232 : Cond.code yX3_at cX3_at 2 (Option.some FieldType.int) ∈ WT := wt_of (i := 232) (by decide +kernel) (by decide +kernel)
theorem wt_233 : Cond.methodLink RX2 101 yX2_isDigit ∈ WT := wt_of (i := 233) (by decide +kernel) (by decide +kernel)
theorem wt_234 : Cond.static yX2_isDigit ∈ WT := wt_of (i := 234) (by decide +kernel) (by decide +kernel)
theorem wt_235 : Cond.code yX2_isDigit cX2_isDigit 1 (Option.some FieldType.boolean) ∈ WT := wt_of (i := 235) (by decide +kernel) (by decide +kernel)
theorem wt_236 : Cond.methodLink RX2 105 yX2_readDigits ∈ WT := wt_of (i := 236) (by decide +kernel) (by decide +kernel)
theorem wt_238 : Cond.instanceMethod yX2_readDigits ∈ WT := wt_of (i := 238) (by decide +kernel) (by decide +kernel)
theorem wt_239 : Cond.code yX2_readDigits cX2_readDigits 3 (Option.none : Option FieldType) ∈ WT := wt_of (i := 239) (by decide +kernel) (by decide +kernel)
theorem wt_240 : Cond.methodLink RX2 108 yX2_isLetter ∈ WT := wt_of (i := 240) (by decide +kernel) (by decide +kernel)
theorem wt_241 : Cond.static yX2_isLetter ∈ WT := wt_of (i := 241) (by decide +kernel) (by decide +kernel)
theorem wt_242 : Cond.code yX2_isLetter cX2_isLetter 1 (Option.some FieldType.boolean) ∈ WT := wt_of (i := 242) (by decide +kernel) (by decide +kernel)
theorem wt_243 : Cond.methodLink RX2 111 yX2_readLetters ∈ WT := wt_of (i := 243) (by decide +kernel) (by decide +kernel)
theorem wt_245 : Cond.instanceMethod yX2_readLetters ∈ WT := wt_of (i := 245) (by decide +kernel) (by decide +kernel)
theorem wt_246 : Cond.code yX2_readLetters cX2_readLetters 1 (Option.none : Option FieldType) ∈ WT := wt_of (i := 246) (by decide +kernel) (by decide +kernel)
theorem wt_248 : Cond.methodLink RX2 116 yX2_isWord ∈ WT := wt_of (i := 248) (by decide +kernel) (by decide +kernel)
theorem wt_250 : Cond.instanceMethod yX2_isWord ∈ WT := wt_of (i := 250) (by decide +kernel) (by decide +kernel)
theorem wt_251 : Cond.code yX2_isWord cX2_isWord 3 (Option.some FieldType.boolean) ∈ WT := wt_of (i := 251) (by decide +kernel) (by decide +kernel)
theorem wt_252 : Cond.methodLink RX2 124 yJ0_length_8abf5 ∈ WT := wt_of (i := 252) (by decide +kernel) (by decide +kernel)
theorem wt_253 : Cond.instanceMethod yJ0_length_8abf5 ∈ WT := wt_of (i := 253) (by decide +kernel) (by decide +kernel)
theorem wt_254 : Cond.selects RJ0 yJ0_length_8abf5 yJ0_length_8abf5 ∈ WT := wt_of (i := 254) (by decide +kernel) (by decide +kernel)
theorem wt_255 : Cond.code yJ0_length_8abf5 cJ0_length_8abf5 1 (Option.some FieldType.int) ∈ WT := wt_of (i := 255) (by decide +kernel) (by decide +kernel)
theorem wt_256 : Cond.methodLink RJ0 335 yJ0_coder_7d493 ∈ WT := wt_of (i := 256) (by decide +kernel) (by decide +kernel)
theorem wt_257 : Cond.instanceMethod yJ0_coder_7d493 ∈ WT := wt_of (i := 257) (by decide +kernel) (by decide +kernel)
theorem wt_258 : Cond.selects RJ0 yJ0_coder_7d493 yJ0_coder_7d493 ∈ WT := wt_of (i := 258) (by decide +kernel) (by decide +kernel)
theorem wt_259 : Cond.code yJ0_coder_7d493 cJ0_coder_7d493 1 (Option.some FieldType.byte) ∈ WT := wt_of (i := 259) (by decide +kernel) (by decide +kernel)
theorem wt_260 : Cond.fieldLink RJ0 38 "java/lang/String" "COMPACT_STRINGS" "Z" ∈ WT := wt_of (i := 260) (by decide +kernel) (by decide +kernel)
theorem wt_262 : Cond.methodLink RX2 129 yJ0_charAt_5068e ∈ WT := wt_of (i := 262) (by decide +kernel) (by decide +kernel)
theorem wt_263 : Cond.instanceMethod yJ0_charAt_5068e ∈ WT := wt_of (i := 263) (by decide +kernel) (by decide +kernel)
theorem wt_264 : Cond.selects RJ0 yJ0_charAt_5068e yJ0_charAt_5068e ∈ WT := wt_of (i := 264) (by decide +kernel) (by decide +kernel)
theorem wt_265 : Cond.code yJ0_charAt_5068e cJ0_charAt_5068e 2 (Option.some FieldType.char) ∈ WT := wt_of (i := 265) (by decide +kernel) (by decide +kernel)
theorem wt_266 : Cond.methodLink RJ0 492 yJ0_isLatin1_aae02 ∈ WT := wt_of (i := 266) (by decide +kernel) (by decide +kernel)
theorem wt_267 : Cond.instanceMethod yJ0_isLatin1_aae02 ∈ WT := wt_of (i := 267) (by decide +kernel) (by decide +kernel)
theorem wt_268 : Cond.selects RJ0 yJ0_isLatin1_aae02 yJ0_isLatin1_aae02 ∈ WT := wt_of (i := 268) (by decide +kernel) (by decide +kernel)
theorem wt_269 : Cond.code yJ0_isLatin1_aae02 cJ0_isLatin1_aae02 1 (Option.some FieldType.boolean) ∈ WT := wt_of (i := 269) (by decide +kernel) (by decide +kernel)
theorem wt_270 : Cond.methodLink RJ0 495 yJ1_charAt_3b067 ∈ WT := wt_of (i := 270) (by decide +kernel) (by decide +kernel)
theorem wt_271 : Cond.static yJ1_charAt_3b067 ∈ WT := wt_of (i := 271) (by decide +kernel) (by decide +kernel)
theorem wt_272 : Cond.code yJ1_charAt_3b067 cJ1_charAt_3b067 2 (Option.some FieldType.char) ∈ WT := wt_of (i := 272) (by decide +kernel) (by decide +kernel)
theorem wt_273 : Cond.methodLink RJ1 9 yJ0_checkIndex_df160 ∈ WT := wt_of (i := 273) (by decide +kernel) (by decide +kernel)
theorem wt_274 : Cond.static yJ0_checkIndex_df160 ∈ WT := wt_of (i := 274) (by decide +kernel) (by decide +kernel)
theorem wt_275 : Cond.code yJ0_checkIndex_df160 cJ0_checkIndex_df160 2 (Option.none : Option FieldType) ∈ WT := wt_of (i := 275) (by decide +kernel) (by decide +kernel)
theorem wt_276 : Cond.fieldLink RJ0 1053 "jdk/internal/util/Preconditions" "SIOOBE_FORMATTER" "Ljava/util/function/BiFunction;" ∈ WT := wt_of (i := 276) (by decide +kernel) (by decide +kernel)
theorem wt_278 : Cond.methodLink RJ0 1059 yJ3_checkIndex_8e157 ∈ WT := wt_of (i := 278) (by decide +kernel) (by decide +kernel)
theorem wt_279 : Cond.static yJ3_checkIndex_8e157 ∈ WT := wt_of (i := 279) (by decide +kernel) (by decide +kernel)
theorem wt_280 : Cond.code yJ3_checkIndex_8e157 cJ3_checkIndex_8e157 3 (Option.some FieldType.int) ∈ WT := wt_of (i := 280) (by decide +kernel) (by decide +kernel)
theorem wt_281 : Cond.methodLink RJ0 498 yJ2_charAt_3b067 ∈ WT := wt_of (i := 281) (by decide +kernel) (by decide +kernel)
theorem wt_282 : Cond.static yJ2_charAt_3b067 ∈ WT := wt_of (i := 282) (by decide +kernel) (by decide +kernel)
theorem wt_283 : Cond.code yJ2_charAt_3b067 cJ2_charAt_3b067 2 (Option.some FieldType.char) ∈ WT := wt_of (i := 283) (by decide +kernel) (by decide +kernel)
theorem wt_284 : Cond.methodLink RJ2 67 yJ2_checkIndex_2214a ∈ WT := wt_of (i := 284) (by decide +kernel) (by decide +kernel)
theorem wt_285 : Cond.static yJ2_checkIndex_2214a ∈ WT := wt_of (i := 285) (by decide +kernel) (by decide +kernel)
theorem wt_286 : Cond.code yJ2_checkIndex_2214a cJ2_checkIndex_2214a 2 (Option.none : Option FieldType) ∈ WT := wt_of (i := 286) (by decide +kernel) (by decide +kernel)
theorem wt_287 : Cond.methodLink RJ2 48 yJ2_length_9d52b ∈ WT := wt_of (i := 287) (by decide +kernel) (by decide +kernel)
theorem wt_288 : Cond.static yJ2_length_9d52b ∈ WT := wt_of (i := 288) (by decide +kernel) (by decide +kernel)
theorem wt_289 : Cond.code yJ2_length_9d52b cJ2_length_9d52b 1 (Option.some FieldType.int) ∈ WT := wt_of (i := 289) (by decide +kernel) (by decide +kernel)
theorem wt_290 : Cond.methodLink RJ2 414 yJ0_checkIndex_df160 ∈ WT := wt_of (i := 290) (by decide +kernel) (by decide +kernel)
theorem wt_291 : Cond.methodLink RJ2 71 yJ2_getChar_3b067 ∈ WT := wt_of (i := 291) (by decide +kernel) (by decide +kernel)
theorem wt_292 : Cond.static yJ2_getChar_3b067 ∈ WT := wt_of (i := 292) (by decide +kernel) (by decide +kernel)
theorem wt_293 : Cond.code yJ2_getChar_3b067 cJ2_getChar_3b067 2 (Option.some FieldType.char) ∈ WT := wt_of (i := 293) (by decide +kernel) (by decide +kernel)
theorem wt_294 : Cond.fieldLink RJ2 44 "java/lang/StringUTF16" "$assertionsDisabled" "Z" ∈ WT := wt_of (i := 294) (by decide +kernel) (by decide +kernel)
theorem wt_296 : Cond.fieldLink RJ2 59 "java/lang/StringUTF16" "HI_BYTE_SHIFT" "I" ∈ WT := wt_of (i := 296) (by decide +kernel) (by decide +kernel)
theorem wt_298 : Cond.fieldLink RJ2 63 "java/lang/StringUTF16" "LO_BYTE_SHIFT" "I" ∈ WT := wt_of (i := 298) (by decide +kernel) (by decide +kernel)
theorem wt_302 : Cond.methodLink RX2 60 yX2_readsLoad ∈ WT := wt_of (i := 302) (by decide +kernel) (by decide +kernel)
theorem wt_304 : Cond.instanceMethod yX2_readsLoad ∈ WT := wt_of (i := 304) (by decide +kernel) (by decide +kernel)
theorem wt_305 : Cond.code yX2_readsLoad cX2_readsLoad 1 (Option.some FieldType.boolean) ∈ WT := wt_of (i := 305) (by decide +kernel) (by decide +kernel)
theorem wt_306 : Cond.methodLink RX2 77 yX2_readsNumber ∈ WT := wt_of (i := 306) (by decide +kernel) (by decide +kernel)
theorem wt_308 : Cond.instanceMethod yX2_readsNumber ∈ WT := wt_of (i := 308) (by decide +kernel) (by decide +kernel)
theorem wt_309 : Cond.code yX2_readsNumber cX2_readsNumber 3 (Option.some FieldType.boolean) ∈ WT := wt_of (i := 309) (by decide +kernel) (by decide +kernel)
theorem wt_310 : Cond.methodLink RX2 81 yX3_add ∈ WT := wt_of (i := 310) (by decide +kernel) (by decide +kernel)
theorem wt_311 : Cond.methodLink RX2 84 yX2_readsEndOfItem ∈ WT := wt_of (i := 311) (by decide +kernel) (by decide +kernel)
theorem wt_313 : Cond.instanceMethod yX2_readsEndOfItem ∈ WT := wt_of (i := 313) (by decide +kernel) (by decide +kernel)
theorem wt_314 : Cond.code yX2_readsEndOfItem cX2_readsEndOfItem 1 (Option.some FieldType.boolean) ∈ WT := wt_of (i := 314) (by decide +kernel) (by decide +kernel)
theorem wt_315 : Cond.methodLink RX2 64 yX2_readsTaster ∈ WT := wt_of (i := 315) (by decide +kernel) (by decide +kernel)
theorem wt_317 : Cond.instanceMethod yX2_readsTaster ∈ WT := wt_of (i := 317) (by decide +kernel) (by decide +kernel)
theorem wt_318 : Cond.code yX2_readsTaster cX2_readsTaster 2 (Option.some FieldType.boolean) ∈ WT := wt_of (i := 318) (by decide +kernel) (by decide +kernel)
theorem wt_319 : Cond.methodLink RX2 87 yX0_least ∈ WT := wt_of (i := 319) (by decide +kernel) (by decide +kernel)
theorem wt_320 : Cond.static yX0_least ∈ WT := wt_of (i := 320) (by decide +kernel) (by decide +kernel)
theorem wt_321 : Cond.code yX0_least cX0_least 1 (Option.some FieldType.int) ∈ WT := wt_of (i := 321) (by decide +kernel) (by decide +kernel)
theorem wt_322 : Cond.methodLink RX2 91 yX0_most ∈ WT := wt_of (i := 322) (by decide +kernel) (by decide +kernel)
theorem wt_323 : Cond.static yX0_most ∈ WT := wt_of (i := 323) (by decide +kernel) (by decide +kernel)
theorem wt_324 : Cond.code yX0_most cX0_most 1 (Option.some FieldType.int) ∈ WT := wt_of (i := 324) (by decide +kernel) (by decide +kernel)
theorem wt_325 : Cond.methodLink RX2 97 yX0_numbered ∈ WT := wt_of (i := 325) (by decide +kernel) (by decide +kernel)
theorem wt_326 : Cond.static yX0_numbered ∈ WT := wt_of (i := 326) (by decide +kernel) (by decide +kernel)
theorem wt_327 : Cond.code yX0_numbered cX0_numbered 4 (Option.some FieldType.int) ∈ WT := wt_of (i := 327) (by decide +kernel) (by decide +kernel)
theorem wt_328 : Cond.methodLink RX2 67 yX2_readsHeat ∈ WT := wt_of (i := 328) (by decide +kernel) (by decide +kernel)
theorem wt_330 : Cond.instanceMethod yX2_readsHeat ∈ WT := wt_of (i := 330) (by decide +kernel) (by decide +kernel)
theorem wt_331 : Cond.code yX2_readsHeat cX2_readsHeat 1 (Option.some FieldType.boolean) ∈ WT := wt_of (i := 331) (by decide +kernel) (by decide +kernel)
theorem wt_332 : Cond.methodLink RX4 78 yX2_fault ∈ WT := wt_of (i := 332) (by decide +kernel) (by decide +kernel)
theorem wt_333 : Cond.instanceMethod yX2_fault ∈ WT := wt_of (i := 333) (by decide +kernel) (by decide +kernel)
theorem wt_334 : Cond.selects RX2 yX2_fault yX2_fault ∈ WT := wt_of (i := 334) (by decide +kernel) (by decide +kernel)
theorem wt_335 : Cond.code yX2_fault cX2_fault 1 (Option.some FieldType.int) ∈ WT := wt_of (i := 335) (by decide +kernel) (by decide +kernel)
theorem wt_336 : Cond.methodLink RX4 82 yX3_copyFrom ∈ WT := wt_of (i := 336) (by decide +kernel) (by decide +kernel)
theorem wt_337 : Cond.instanceMethod yX3_copyFrom ∈ WT := wt_of (i := 337) (by decide +kernel) (by decide +kernel)
theorem wt_338 : Cond.selects RX3 yX3_copyFrom yX3_copyFrom ∈ WT := wt_of (i := 338) (by decide +kernel) (by decide +kernel)
theorem wt_339 : Cond.code yX3_copyFrom cX3_copyFrom 3 (Option.none : Option FieldType) ∈ WT := wt_of (i := 339) (by decide +kernel) (by decide +kernel)
theorem wt_340 : Cond.methodLink RX3 23 yX3_cutTo ∈ WT := wt_of (i := 340) (by decide +kernel) (by decide +kernel)
theorem wt_341 : Cond.methodLink RX3 27 yX3_size ∈ WT := wt_of (i := 341) (by decide +kernel) (by decide +kernel)
theorem wt_342 : Cond.methodLink RX3 31 yX3_at ∈ WT := wt_of (i := 342) (by decide +kernel) (by decide +kernel)
theorem wt_343 : Cond.methodLink RX3 35 yX3_add ∈ WT := wt_of (i := 343) (by decide +kernel) (by decide +kernel)
theorem wt_344 : Cond.methodLink RX4 91 yX1_begin ∈ WT := wt_of (i := 344) (by decide +kernel) (by decide +kernel)
theorem wt_345 : Cond.instanceMethod yX1_begin ∈ WT := wt_of (i := 345) (by decide +kernel) (by decide +kernel)
theorem wt_346 : Cond.selects RX1 yX1_begin yX1_begin ∈ WT := wt_of (i := 346) (by decide +kernel) (by decide +kernel)
theorem wt_347 : Cond.code yX1_begin cX1_begin 4 (Option.none : Option FieldType) ∈ WT := wt_of (i := 347) (by decide +kernel) (by decide +kernel)
theorem wt_348 : Cond.methodLink RX1 27 yX3_cutTo ∈ WT := wt_of (i := 348) (by decide +kernel) (by decide +kernel)
theorem wt_349 : Cond.methodLink RX1 30 yX3_add ∈ WT := wt_of (i := 349) (by decide +kernel) (by decide +kernel)
theorem wt_350 : Cond.arrayClass FieldType.byte ∈ WT := wt_of (i := 350) (by decide +kernel) (by decide +kernel)
theorem wt_351 : Cond.methodLink RL 29 yX4_load ∈ WT := wt_of (i := 351) (by decide +kernel) (by decide +kernel)
theorem wt_352 : Cond.instanceMethod yX4_load ∈ WT := wt_of (i := 352) (by decide +kernel) (by decide +kernel)
theorem wt_353 : Cond.selects RX4 yX4_load yX4_load ∈ WT := wt_of (i := 353) (by decide +kernel) (by decide +kernel)
theorem wt_354 : Cond.code yX4_load cX4_load 2 (Option.some FieldType.int) ∈ WT := wt_of (i := 354) (by decide +kernel) (by decide +kernel)
theorem wt_355 : Cond.methodLink RX4 98 yX4_isLoad ∈ WT := wt_of (i := 355) (by decide +kernel) (by decide +kernel)
theorem wt_357 : Cond.instanceMethod yX4_isLoad ∈ WT := wt_of (i := 357) (by decide +kernel) (by decide +kernel)
theorem wt_358 : Cond.code yX4_isLoad cX4_isLoad 2 (Option.some FieldType.boolean) ∈ WT := wt_of (i := 358) (by decide +kernel) (by decide +kernel)
theorem wt_359 : Cond.methodLink RX4 210 yX3_has ∈ WT := wt_of (i := 359) (by decide +kernel) (by decide +kernel)
theorem wt_360 : Cond.instanceMethod yX3_has ∈ WT := wt_of (i := 360) (by decide +kernel) (by decide +kernel)
theorem wt_361 : Cond.selects RX3 yX3_has yX3_has ∈ WT := wt_of (i := 361) (by decide +kernel) (by decide +kernel)
theorem wt_362 : Cond.code yX3_has cX3_has 2 (Option.some FieldType.boolean) ∈ WT := wt_of (i := 362) (by decide +kernel) (by decide +kernel)
theorem wt_363 : Cond.methodLink RX4 102 yX3_at ∈ WT := wt_of (i := 363) (by decide +kernel) (by decide +kernel)
theorem wt_364 : Cond.methodLink RL 34 yX4_taster ∈ WT := wt_of (i := 364) (by decide +kernel) (by decide +kernel)
theorem wt_365 : Cond.instanceMethod yX4_taster ∈ WT := wt_of (i := 365) (by decide +kernel) (by decide +kernel)
theorem wt_366 : Cond.selects RX4 yX4_taster yX4_taster ∈ WT := wt_of (i := 366) (by decide +kernel) (by decide +kernel)
theorem wt_367 : Cond.code yX4_taster cX4_taster 3 (Option.some FieldType.int) ∈ WT := wt_of (i := 367) (by decide +kernel) (by decide +kernel)
theorem wt_368 : Cond.methodLink RX4 106 yX4_isTaster ∈ WT := wt_of (i := 368) (by decide +kernel) (by decide +kernel)
theorem wt_370 : Cond.instanceMethod yX4_isTaster ∈ WT := wt_of (i := 370) (by decide +kernel) (by decide +kernel)
theorem wt_371 : Cond.code yX4_isTaster cX4_isTaster 2 (Option.some FieldType.boolean) ∈ WT := wt_of (i := 371) (by decide +kernel) (by decide +kernel)
theorem wt_372 : Cond.methodLink RX4 112 yX0_part ∈ WT := wt_of (i := 372) (by decide +kernel) (by decide +kernel)
theorem wt_373 : Cond.static yX0_part ∈ WT := wt_of (i := 373) (by decide +kernel) (by decide +kernel)
theorem wt_374 : Cond.code yX0_part cX0_part 2 (Option.some FieldType.int) ∈ WT := wt_of (i := 374) (by decide +kernel) (by decide +kernel)
theorem wt_375 : Cond.methodLink RL 39 yX4_cups ∈ WT := wt_of (i := 375) (by decide +kernel) (by decide +kernel)
theorem wt_376 : Cond.instanceMethod yX4_cups ∈ WT := wt_of (i := 376) (by decide +kernel) (by decide +kernel)
theorem wt_377 : Cond.selects RX4 yX4_cups yX4_cups ∈ WT := wt_of (i := 377) (by decide +kernel) (by decide +kernel)
theorem wt_378 : Cond.code yX4_cups cX4_cups 4 (Option.some FieldType.int) ∈ WT := wt_of (i := 378) (by decide +kernel) (by decide +kernel)
theorem wt_379 : Cond.methodLink RX4 118 yX4_isWeight ∈ WT := wt_of (i := 379) (by decide +kernel) (by decide +kernel)
theorem wt_380 : Cond.static yX4_isWeight ∈ WT := wt_of (i := 380) (by decide +kernel) (by decide +kernel)
theorem wt_381 : Cond.code yX4_isWeight cX4_isWeight 1 (Option.some FieldType.boolean) ∈ WT := wt_of (i := 381) (by decide +kernel) (by decide +kernel)
theorem wt_382 : Cond.methodLink RX4 122 yX0_drinks ∈ WT := wt_of (i := 382) (by decide +kernel) (by decide +kernel)
theorem wt_383 : Cond.static yX0_drinks ∈ WT := wt_of (i := 383) (by decide +kernel) (by decide +kernel)
theorem wt_384 : Cond.code yX0_drinks cX0_drinks 6 (Option.some FieldType.int) ∈ WT := wt_of (i := 384) (by decide +kernel) (by decide +kernel)
theorem wt_385 : Cond.methodLink RX0 9 yX0_part ∈ WT := wt_of (i := 385) (by decide +kernel) (by decide +kernel)
theorem wt_386 : Cond.methodLink RX0 13 Lib.Math.max.name ∈ WT := wt_of (i := 386) (by decide +kernel) (by decide +kernel)
theorem wt_387 : Cond.methodLink RL 44 yX4_weighs ∈ WT := wt_of (i := 387) (by decide +kernel) (by decide +kernel)
theorem wt_388 : Cond.instanceMethod yX4_weighs ∈ WT := wt_of (i := 388) (by decide +kernel) (by decide +kernel)
theorem wt_389 : Cond.selects RX4 yX4_weighs yX4_weighs ∈ WT := wt_of (i := 389) (by decide +kernel) (by decide +kernel)
theorem wt_390 : Cond.code yX4_weighs cX4_weighs 4 (Option.some FieldType.int) ∈ WT := wt_of (i := 390) (by decide +kernel) (by decide +kernel)
theorem wt_391 : Cond.methodLink RX4 126 yX4_facts ∈ WT := wt_of (i := 391) (by decide +kernel) (by decide +kernel)
theorem wt_393 : Cond.instanceMethod yX4_facts ∈ WT := wt_of (i := 393) (by decide +kernel) (by decide +kernel)
theorem wt_394 : Cond.code yX4_facts cX4_facts 1 (Option.some FieldType.int) ∈ WT := wt_of (i := 394) (by decide +kernel) (by decide +kernel)
theorem wt_395 : Cond.methodLink RX4 129 yX4_thirst ∈ WT := wt_of (i := 395) (by decide +kernel) (by decide +kernel)
theorem wt_397 : Cond.instanceMethod yX4_thirst ∈ WT := wt_of (i := 397) (by decide +kernel) (by decide +kernel)
theorem wt_398 : Cond.code yX4_thirst cX4_thirst 3 (Option.some FieldType.int) ∈ WT := wt_of (i := 398) (by decide +kernel) (by decide +kernel)
theorem wt_399 : Cond.methodLink RX4 132 yX4_addFact ∈ WT := wt_of (i := 399) (by decide +kernel) (by decide +kernel)
theorem wt_401 : Cond.instanceMethod yX4_addFact ∈ WT := wt_of (i := 401) (by decide +kernel) (by decide +kernel)
theorem wt_402 : Cond.code yX4_addFact cX4_addFact 5 (Option.none : Option FieldType) ∈ WT := wt_of (i := 402) (by decide +kernel) (by decide +kernel)
theorem wt_403 : Cond.methodLink RX4 136 yX4_addLick ∈ WT := wt_of (i := 403) (by decide +kernel) (by decide +kernel)
theorem wt_405 : Cond.instanceMethod yX4_addLick ∈ WT := wt_of (i := 405) (by decide +kernel) (by decide +kernel)
theorem wt_406 : Cond.code yX4_addLick cX4_addLick 2 (Option.none : Option FieldType) ∈ WT := wt_of (i := 406) (by decide +kernel) (by decide +kernel)
theorem wt_407 : Cond.methodLink RX4 144 yX3_put ∈ WT := wt_of (i := 407) (by decide +kernel) (by decide +kernel)
theorem wt_408 : Cond.instanceMethod yX3_put ∈ WT := wt_of (i := 408) (by decide +kernel) (by decide +kernel)
theorem wt_409 : Cond.selects RX3 yX3_put yX3_put ∈ WT := wt_of (i := 409) (by decide +kernel) (by decide +kernel)
theorem wt_410 : Cond.code yX3_put cX3_put 3 (Option.none : Option FieldType) ∈ WT := wt_of (i := 410) (by decide +kernel) (by decide +kernel)
theorem wt_411 : Cond.methodLink RL 48 yX4_says ∈ WT := wt_of (i := 411) (by decide +kernel) (by decide +kernel)
theorem wt_412 : Cond.instanceMethod yX4_says ∈ WT := wt_of (i := 412) (by decide +kernel) (by decide +kernel)
theorem wt_413 : Cond.selects RX4 yX4_says yX4_says ∈ WT := wt_of (i := 413) (by decide +kernel) (by decide +kernel)
theorem wt_414 : Cond.code yX4_says cX4_says 4 (Option.some FieldType.int) ∈ WT := wt_of (i := 414) (by decide +kernel) (by decide +kernel)
theorem wt_415 : Cond.methodLink RL 52 yX4_jug ∈ WT := wt_of (i := 415) (by decide +kernel) (by decide +kernel)
theorem wt_416 : Cond.instanceMethod yX4_jug ∈ WT := wt_of (i := 416) (by decide +kernel) (by decide +kernel)
theorem wt_417 : Cond.selects RX4 yX4_jug yX4_jug ∈ WT := wt_of (i := 417) (by decide +kernel) (by decide +kernel)
theorem wt_418 : Cond.code yX4_jug cX4_jug 8 (Option.some FieldType.int) ∈ WT := wt_of (i := 418) (by decide +kernel) (by decide +kernel)
theorem wt_419 : Cond.methodLink RX4 139 Lib.Math.min.name ∈ WT := wt_of (i := 419) (by decide +kernel) (by decide +kernel)
theorem wt_420 : Cond.static Lib.Math.min.name ∈ WT := wt_of (i := 420) (by decide +kernel) (by decide +kernel)
theorem wt_421 : Cond.code Lib.Math.min.name Lib.Math.min.code 2 (Option.some FieldType.int) ∈ WT := wt_of (i := 421) (by decide +kernel) (by decide +kernel)
theorem wt_422 : Cond.methodLink RL 57 yX4_night ∈ WT := wt_of (i := 422) (by decide +kernel) (by decide +kernel)
theorem wt_423 : Cond.instanceMethod yX4_night ∈ WT := wt_of (i := 423) (by decide +kernel) (by decide +kernel)
theorem wt_424 : Cond.selects RX4 yX4_night yX4_night ∈ WT := wt_of (i := 424) (by decide +kernel) (by decide +kernel)
theorem wt_425 : Cond.code yX4_night cX4_night 3 (Option.some FieldType.int) ∈ WT := wt_of (i := 425) (by decide +kernel) (by decide +kernel)
theorem wt_426 : Cond.methodLink RL 61 yX4_heat ∈ WT := wt_of (i := 426) (by decide +kernel) (by decide +kernel)
theorem wt_427 : Cond.instanceMethod yX4_heat ∈ WT := wt_of (i := 427) (by decide +kernel) (by decide +kernel)
theorem wt_428 : Cond.selects RX4 yX4_heat yX4_heat ∈ WT := wt_of (i := 428) (by decide +kernel) (by decide +kernel)
theorem wt_429 : Cond.code yX4_heat cX4_heat 3 (Option.some FieldType.int) ∈ WT := wt_of (i := 429) (by decide +kernel) (by decide +kernel)
theorem wt_430 : Cond.methodLink RL 65 yX4_undo ∈ WT := wt_of (i := 430) (by decide +kernel) (by decide +kernel)
theorem wt_431 : Cond.instanceMethod yX4_undo ∈ WT := wt_of (i := 431) (by decide +kernel) (by decide +kernel)
theorem wt_432 : Cond.selects RX4 yX4_undo yX4_undo ∈ WT := wt_of (i := 432) (by decide +kernel) (by decide +kernel)
theorem wt_433 : Cond.code yX4_undo cX4_undo 3 (Option.some FieldType.int) ∈ WT := wt_of (i := 433) (by decide +kernel) (by decide +kernel)
theorem wt_434 : Cond.methodLink RX4 147 yX4_fact ∈ WT := wt_of (i := 434) (by decide +kernel) (by decide +kernel)
theorem wt_436 : Cond.instanceMethod yX4_fact ∈ WT := wt_of (i := 436) (by decide +kernel) (by decide +kernel)
theorem wt_437 : Cond.code yX4_fact cX4_fact 3 (Option.some FieldType.int) ∈ WT := wt_of (i := 437) (by decide +kernel) (by decide +kernel)
theorem wt_438 : Cond.methodLink RX4 150 Lib.Math.max.name ∈ WT := wt_of (i := 438) (by decide +kernel) (by decide +kernel)
theorem wt_439 : Cond.methodLink RL 69 yX4_known ∈ WT := wt_of (i := 439) (by decide +kernel) (by decide +kernel)
theorem wt_440 : Cond.instanceMethod yX4_known ∈ WT := wt_of (i := 440) (by decide +kernel) (by decide +kernel)
theorem wt_441 : Cond.selects RX4 yX4_known yX4_known ∈ WT := wt_of (i := 441) (by decide +kernel) (by decide +kernel)
theorem wt_442 : Cond.code yX4_known cX4_known 3 (Option.some FieldType.int) ∈ WT := wt_of (i := 442) (by decide +kernel) (by decide +kernel)
theorem wt_443 : Cond.methodLink RL 73 yX4_canBe ∈ WT := wt_of (i := 443) (by decide +kernel) (by decide +kernel)
theorem wt_444 : Cond.instanceMethod yX4_canBe ∈ WT := wt_of (i := 444) (by decide +kernel) (by decide +kernel)
theorem wt_445 : Cond.selects RX4 yX4_canBe yX4_canBe ∈ WT := wt_of (i := 445) (by decide +kernel) (by decide +kernel)
theorem wt_446 : Cond.code yX4_canBe cX4_canBe 3 (Option.some FieldType.int) ∈ WT := wt_of (i := 446) (by decide +kernel) (by decide +kernel)
theorem wt_447 : Cond.methodLink RX4 155 yX4_greatestOf ∈ WT := wt_of (i := 447) (by decide +kernel) (by decide +kernel)
theorem wt_449 : Cond.instanceMethod yX4_greatestOf ∈ WT := wt_of (i := 449) (by decide +kernel) (by decide +kernel)
theorem wt_450 : Cond.code yX4_greatestOf cX4_greatestOf 3 (Option.some FieldType.int) ∈ WT := wt_of (i := 450) (by decide +kernel) (by decide +kernel)
theorem wt_451 : Cond.methodLink RX4 213 yX4_canWeigh ∈ WT := wt_of (i := 451) (by decide +kernel) (by decide +kernel)
theorem wt_453 : Cond.instanceMethod yX4_canWeigh ∈ WT := wt_of (i := 453) (by decide +kernel) (by decide +kernel)
theorem wt_454 : Cond.code yX4_canWeigh cX4_canWeigh 5 (Option.some FieldType.boolean) ∈ WT := wt_of (i := 454) (by decide +kernel) (by decide +kernel)
theorem wt_455 : Cond.methodLink RX4 178 yX4_drinksIn ∈ WT := wt_of (i := 455) (by decide +kernel) (by decide +kernel)
theorem wt_457 : Cond.instanceMethod yX4_drinksIn ∈ WT := wt_of (i := 457) (by decide +kernel) (by decide +kernel)
theorem wt_458 : Cond.code yX4_drinksIn cX4_drinksIn 3 (Option.some FieldType.int) ∈ WT := wt_of (i := 458) (by decide +kernel) (by decide +kernel)
theorem wt_459 : Cond.methodLink RX4 158 yX4_leastOf ∈ WT := wt_of (i := 459) (by decide +kernel) (by decide +kernel)
theorem wt_461 : Cond.instanceMethod yX4_leastOf ∈ WT := wt_of (i := 461) (by decide +kernel) (by decide +kernel)
theorem wt_462 : Cond.code yX4_leastOf cX4_leastOf 3 (Option.some FieldType.int) ∈ WT := wt_of (i := 462) (by decide +kernel) (by decide +kernel)
theorem wt_463 : Cond.methodLink RL 77 yX4_next ∈ WT := wt_of (i := 463) (by decide +kernel) (by decide +kernel)
theorem wt_464 : Cond.instanceMethod yX4_next ∈ WT := wt_of (i := 464) (by decide +kernel) (by decide +kernel)
theorem wt_465 : Cond.selects RX4 yX4_next yX4_next ∈ WT := wt_of (i := 465) (by decide +kernel) (by decide +kernel)
theorem wt_466 : Cond.code yX4_next cX4_next 9 (Option.some FieldType.int) ∈ WT := wt_of (i := 466) (by decide +kernel) (by decide +kernel)
theorem wt_467 : Cond.methodLink RX4 161 yX4_leftAtWorst ∈ WT := wt_of (i := 467) (by decide +kernel) (by decide +kernel)
theorem wt_469 : Cond.instanceMethod yX4_leftAtWorst ∈ WT := wt_of (i := 469) (by decide +kernel) (by decide +kernel)
theorem wt_470 : Cond.code yX4_leftAtWorst cX4_leftAtWorst 8 (Option.some FieldType.int) ∈ WT := wt_of (i := 470) (by decide +kernel) (by decide +kernel)
theorem wt_471 : Cond.methodLink RX4 217 yX4_endOfSpan ∈ WT := wt_of (i := 471) (by decide +kernel) (by decide +kernel)
theorem wt_473 : Cond.instanceMethod yX4_endOfSpan ∈ WT := wt_of (i := 473) (by decide +kernel) (by decide +kernel)
theorem wt_474 : Cond.code yX4_endOfSpan cX4_endOfSpan 7 (Option.some FieldType.int) ∈ WT := wt_of (i := 474) (by decide +kernel) (by decide +kernel)
theorem wt_475 : Cond.methodLink RL 81 yX4_enough ∈ WT := wt_of (i := 475) (by decide +kernel) (by decide +kernel)
theorem wt_476 : Cond.instanceMethod yX4_enough ∈ WT := wt_of (i := 476) (by decide +kernel) (by decide +kernel)
theorem wt_477 : Cond.selects RX4 yX4_enough yX4_enough ∈ WT := wt_of (i := 477) (by decide +kernel) (by decide +kernel)
theorem wt_478 : Cond.code yX4_enough cX4_enough 6 (Option.some FieldType.int) ∈ WT := wt_of (i := 478) (by decide +kernel) (by decide +kernel)
theorem wt_479 : Cond.methodLink RX4 165 yX4_isEnough ∈ WT := wt_of (i := 479) (by decide +kernel) (by decide +kernel)
theorem wt_481 : Cond.instanceMethod yX4_isEnough ∈ WT := wt_of (i := 481) (by decide +kernel) (by decide +kernel)
theorem wt_482 : Cond.code yX4_isEnough cX4_isEnough 7 (Option.some FieldType.boolean) ∈ WT := wt_of (i := 482) (by decide +kernel) (by decide +kernel)
theorem wt_483 : Cond.methodLink RX4 220 yX4_isEnoughBy ∈ WT := wt_of (i := 483) (by decide +kernel) (by decide +kernel)
theorem wt_485 : Cond.instanceMethod yX4_isEnoughBy ∈ WT := wt_of (i := 485) (by decide +kernel) (by decide +kernel)
theorem wt_486 : Cond.code yX4_isEnoughBy cX4_isEnoughBy 11 (Option.some FieldType.boolean) ∈ WT := wt_of (i := 486) (by decide +kernel) (by decide +kernel)
theorem wt_487 : Cond.methodLink RX4 224 yX4_plannedLicks ∈ WT := wt_of (i := 487) (by decide +kernel) (by decide +kernel)
theorem wt_488 : Cond.static yX4_plannedLicks ∈ WT := wt_of (i := 488) (by decide +kernel) (by decide +kernel)
theorem wt_489 : Cond.code yX4_plannedLicks cX4_plannedLicks 2 (Option.some FieldType.int) ∈ WT := wt_of (i := 489) (by decide +kernel) (by decide +kernel)
theorem wt_490 : Cond.methodLink RX4 227 yX4_planWith ∈ WT := wt_of (i := 490) (by decide +kernel) (by decide +kernel)
theorem wt_491 : Cond.static yX4_planWith ∈ WT := wt_of (i := 491) (by decide +kernel) (by decide +kernel)
theorem wt_492 : Cond.code yX4_planWith cX4_planWith 2 (Option.some FieldType.int) ∈ WT := wt_of (i := 492) (by decide +kernel) (by decide +kernel)
theorem wt_493 : Cond.methodLink RL 85 yX4_heavier ∈ WT := wt_of (i := 493) (by decide +kernel) (by decide +kernel)
theorem wt_494 : Cond.instanceMethod yX4_heavier ∈ WT := wt_of (i := 494) (by decide +kernel) (by decide +kernel)
theorem wt_495 : Cond.selects RX4 yX4_heavier yX4_heavier ∈ WT := wt_of (i := 495) (by decide +kernel) (by decide +kernel)
theorem wt_496 : Cond.code yX4_heavier cX4_heavier 3 (Option.some FieldType.int) ∈ WT := wt_of (i := 496) (by decide +kernel) (by decide +kernel)
theorem wt_497 : Cond.methodLink RL 89 yX4_told ∈ WT := wt_of (i := 497) (by decide +kernel) (by decide +kernel)
theorem wt_498 : Cond.instanceMethod yX4_told ∈ WT := wt_of (i := 498) (by decide +kernel) (by decide +kernel)
theorem wt_499 : Cond.selects RX4 yX4_told yX4_told ∈ WT := wt_of (i := 499) (by decide +kernel) (by decide +kernel)
theorem wt_500 : Cond.code yX4_told cX4_told 5 (Option.some FieldType.int) ∈ WT := wt_of (i := 500) (by decide +kernel) (by decide +kernel)
theorem wt_501 : Cond.methodLink RX4 169 yX4_isTasting ∈ WT := wt_of (i := 501) (by decide +kernel) (by decide +kernel)
theorem wt_502 : Cond.static yX4_isTasting ∈ WT := wt_of (i := 502) (by decide +kernel) (by decide +kernel)
theorem wt_503 : Cond.code yX4_isTasting cX4_isTasting 3 (Option.some FieldType.boolean) ∈ WT := wt_of (i := 503) (by decide +kernel) (by decide +kernel)
theorem wt_504 : Cond.methodLink RX4 172 yX4_toldTastings ∈ WT := wt_of (i := 504) (by decide +kernel) (by decide +kernel)
theorem wt_506 : Cond.instanceMethod yX4_toldTastings ∈ WT := wt_of (i := 506) (by decide +kernel) (by decide +kernel)
theorem wt_507 : Cond.code yX4_toldTastings cX4_toldTastings 1 (Option.some FieldType.int) ∈ WT := wt_of (i := 507) (by decide +kernel) (by decide +kernel)
theorem wt_508 : Cond.methodLink RL 94 yX4_forget ∈ WT := wt_of (i := 508) (by decide +kernel) (by decide +kernel)
theorem wt_509 : Cond.instanceMethod yX4_forget ∈ WT := wt_of (i := 509) (by decide +kernel) (by decide +kernel)
theorem wt_510 : Cond.selects RX4 yX4_forget yX4_forget ∈ WT := wt_of (i := 510) (by decide +kernel) (by decide +kernel)
theorem wt_511 : Cond.code yX4_forget cX4_forget 2 (Option.some FieldType.int) ∈ WT := wt_of (i := 511) (by decide +kernel) (by decide +kernel)
theorem wt_512 : Cond.methodLink RL 98 yX4_learnt ∈ WT := wt_of (i := 512) (by decide +kernel) (by decide +kernel)
theorem wt_513 : Cond.instanceMethod yX4_learnt ∈ WT := wt_of (i := 513) (by decide +kernel) (by decide +kernel)
theorem wt_514 : Cond.selects RX4 yX4_learnt yX4_learnt ∈ WT := wt_of (i := 514) (by decide +kernel) (by decide +kernel)
theorem wt_515 : Cond.code yX4_learnt cX4_learnt 4 (Option.some FieldType.int) ∈ WT := wt_of (i := 515) (by decide +kernel) (by decide +kernel)
theorem wt_516 : Cond.methodLink RX4 175 yX4_isAsTold ∈ WT := wt_of (i := 516) (by decide +kernel) (by decide +kernel)
theorem wt_518 : Cond.instanceMethod yX4_isAsTold ∈ WT := wt_of (i := 518) (by decide +kernel) (by decide +kernel)
theorem wt_519 : Cond.code yX4_isAsTold cX4_isAsTold 4 (Option.some FieldType.boolean) ∈ WT := wt_of (i := 519) (by decide +kernel) (by decide +kernel)
theorem wt_520 : Cond.methodLink RL 102 yX4_may ∈ WT := wt_of (i := 520) (by decide +kernel) (by decide +kernel)
theorem wt_521 : Cond.instanceMethod yX4_may ∈ WT := wt_of (i := 521) (by decide +kernel) (by decide +kernel)
theorem wt_522 : Cond.selects RX4 yX4_may yX4_may ∈ WT := wt_of (i := 522) (by decide +kernel) (by decide +kernel)
theorem wt_523 : Cond.code yX4_may cX4_may 9 (Option.some FieldType.int) ∈ WT := wt_of (i := 523) (by decide +kernel) (by decide +kernel)
theorem wt_524 : Cond.methodLink RL 106 yX4_bribed ∈ WT := wt_of (i := 524) (by decide +kernel) (by decide +kernel)
theorem wt_525 : Cond.instanceMethod yX4_bribed ∈ WT := wt_of (i := 525) (by decide +kernel) (by decide +kernel)
theorem wt_526 : Cond.selects RX4 yX4_bribed yX4_bribed ∈ WT := wt_of (i := 526) (by decide +kernel) (by decide +kernel)
theorem wt_527 : Cond.code yX4_bribed cX4_bribed 5 (Option.some FieldType.int) ∈ WT := wt_of (i := 527) (by decide +kernel) (by decide +kernel)
theorem wt_528 : Cond.methodLink RL 110 yX4_memory ∈ WT := wt_of (i := 528) (by decide +kernel) (by decide +kernel)
theorem wt_529 : Cond.instanceMethod yX4_memory ∈ WT := wt_of (i := 529) (by decide +kernel) (by decide +kernel)
theorem wt_530 : Cond.selects RX4 yX4_memory yX4_memory ∈ WT := wt_of (i := 530) (by decide +kernel) (by decide +kernel)
theorem wt_531 : Cond.code yX4_memory cX4_memory 8 (Option.some FieldType.int) ∈ WT := wt_of (i := 531) (by decide +kernel) (by decide +kernel)
theorem wt_532 : Cond.methodLink RX4 181 Lib.Math.abs.name ∈ WT := wt_of (i := 532) (by decide +kernel) (by decide +kernel)
theorem wt_533 : Cond.static Lib.Math.abs.name ∈ WT := wt_of (i := 533) (by decide +kernel) (by decide +kernel)
theorem wt_534 : Cond.code Lib.Math.abs.name Lib.Math.abs.code 1 (Option.some FieldType.int) ∈ WT := wt_of (i := 534) (by decide +kernel) (by decide +kernel)
theorem wt_535 : Cond.methodLink RL 114 yX4_mark ∈ WT := wt_of (i := 535) (by decide +kernel) (by decide +kernel)
theorem wt_536 : Cond.instanceMethod yX4_mark ∈ WT := wt_of (i := 536) (by decide +kernel) (by decide +kernel)
theorem wt_537 : Cond.selects RX4 yX4_mark yX4_mark ∈ WT := wt_of (i := 537) (by decide +kernel) (by decide +kernel)
theorem wt_538 : Cond.code yX4_mark cX4_mark 3 (Option.some FieldType.int) ∈ WT := wt_of (i := 538) (by decide +kernel) (by decide +kernel)
theorem wt_539 : Cond.constant RX4 184 (-1000000 : Int32) ∈ WT := wt_of (i := 539) (by decide +kernel) (by decide +kernel)
theorem wt_540 : Cond.methodLink RX4 185 yX4_markOfTaster ∈ WT := wt_of (i := 540) (by decide +kernel) (by decide +kernel)
theorem wt_542 : Cond.instanceMethod yX4_markOfTaster ∈ WT := wt_of (i := 542) (by decide +kernel) (by decide +kernel)
theorem wt_543 : Cond.code yX4_markOfTaster cX4_markOfTaster 2 (Option.some FieldType.int) ∈ WT := wt_of (i := 543) (by decide +kernel) (by decide +kernel)
theorem wt_544 : Cond.methodLink RX4 188 yX4_markOfCamel ∈ WT := wt_of (i := 544) (by decide +kernel) (by decide +kernel)
theorem wt_546 : Cond.instanceMethod yX4_markOfCamel ∈ WT := wt_of (i := 546) (by decide +kernel) (by decide +kernel)
theorem wt_547 : Cond.code yX4_markOfCamel cX4_markOfCamel 2 (Option.some FieldType.int) ∈ WT := wt_of (i := 547) (by decide +kernel) (by decide +kernel)
theorem wt_548 : Cond.constantLong RX4 230 (10 : Int64) ∈ WT := wt_of (i := 548) (by decide +kernel) (by decide +kernel)
theorem wt_549 : Cond.methodLink RX4 191 yX4_markOfChild ∈ WT := wt_of (i := 549) (by decide +kernel) (by decide +kernel)
theorem wt_551 : Cond.instanceMethod yX4_markOfChild ∈ WT := wt_of (i := 551) (by decide +kernel) (by decide +kernel)
theorem wt_552 : Cond.code yX4_markOfChild cX4_markOfChild 2 (Option.some FieldType.int) ∈ WT := wt_of (i := 552) (by decide +kernel) (by decide +kernel)
theorem wt_553 : Cond.constantLong RX4 232 (100 : Int64) ∈ WT := wt_of (i := 553) (by decide +kernel) (by decide +kernel)
theorem wt_554 : Cond.methodLink RX4 194 yX4_markOfFeverish ∈ WT := wt_of (i := 554) (by decide +kernel) (by decide +kernel)
theorem wt_556 : Cond.instanceMethod yX4_markOfFeverish ∈ WT := wt_of (i := 556) (by decide +kernel) (by decide +kernel)
theorem wt_557 : Cond.code yX4_markOfFeverish cX4_markOfFeverish 2 (Option.some FieldType.int) ∈ WT := wt_of (i := 557) (by decide +kernel) (by decide +kernel)
theorem wt_558 : Cond.constantLong RX4 234 (1000 : Int64) ∈ WT := wt_of (i := 558) (by decide +kernel) (by decide +kernel)
theorem wt_559 : Cond.methodLink RX4 197 yX4_markOfInspector ∈ WT := wt_of (i := 559) (by decide +kernel) (by decide +kernel)
theorem wt_561 : Cond.instanceMethod yX4_markOfInspector ∈ WT := wt_of (i := 561) (by decide +kernel) (by decide +kernel)
theorem wt_562 : Cond.code yX4_markOfInspector cX4_markOfInspector 2 (Option.some FieldType.int) ∈ WT := wt_of (i := 562) (by decide +kernel) (by decide +kernel)
theorem wt_563 : Cond.constantLong RX4 236 (10000 : Int64) ∈ WT := wt_of (i := 563) (by decide +kernel) (by decide +kernel)
theorem wt_564 : Cond.methodLink RX4 200 yX4_markOfWell ∈ WT := wt_of (i := 564) (by decide +kernel) (by decide +kernel)
theorem wt_566 : Cond.instanceMethod yX4_markOfWell ∈ WT := wt_of (i := 566) (by decide +kernel) (by decide +kernel)
theorem wt_567 : Cond.code yX4_markOfWell cX4_markOfWell 2 (Option.some FieldType.int) ∈ WT := wt_of (i := 567) (by decide +kernel) (by decide +kernel)
theorem wt_568 : Cond.constantLong RX4 238 (100000 : Int64) ∈ WT := wt_of (i := 568) (by decide +kernel) (by decide +kernel)
theorem wt_569 : Cond.methodLink RL 118 yX4_keep ∈ WT := wt_of (i := 569) (by decide +kernel) (by decide +kernel)
theorem wt_570 : Cond.instanceMethod yX4_keep ∈ WT := wt_of (i := 570) (by decide +kernel) (by decide +kernel)
theorem wt_571 : Cond.selects RX4 yX4_keep yX4_keep ∈ WT := wt_of (i := 571) (by decide +kernel) (by decide +kernel)
theorem wt_572 : Cond.code yX4_keep cX4_keep 2 (Option.some FieldType.int) ∈ WT := wt_of (i := 572) (by decide +kernel) (by decide +kernel)
theorem wt_573 : Cond.methodLink RX4 203 yX4_imageAt ∈ WT := wt_of (i := 573) (by decide +kernel) (by decide +kernel)
theorem wt_575 : Cond.instanceMethod yX4_imageAt ∈ WT := wt_of (i := 575) (by decide +kernel) (by decide +kernel)
theorem wt_576 : Cond.code yX4_imageAt cX4_imageAt 2 (Option.some (FieldType.object "ThirstScales$Now")) ∈ WT := wt_of (i := 576) (by decide +kernel) (by decide +kernel)
theorem wt_577 : Cond.methodLink RX4 207 yX1_copyFrom ∈ WT := wt_of (i := 577) (by decide +kernel) (by decide +kernel)
theorem wt_578 : Cond.instanceMethod yX1_copyFrom ∈ WT := wt_of (i := 578) (by decide +kernel) (by decide +kernel)
theorem wt_579 : Cond.selects RX1 yX1_copyFrom yX1_copyFrom ∈ WT := wt_of (i := 579) (by decide +kernel) (by decide +kernel)
theorem wt_580 : Cond.code yX1_copyFrom cX1_copyFrom 2 (Option.none : Option FieldType) ∈ WT := wt_of (i := 580) (by decide +kernel) (by decide +kernel)
theorem wt_581 : Cond.methodLink RX1 33 yX3_copyFrom ∈ WT := wt_of (i := 581) (by decide +kernel) (by decide +kernel)
theorem wt_582 : Cond.methodLink RL 122 yX4_back ∈ WT := wt_of (i := 582) (by decide +kernel) (by decide +kernel)
theorem wt_583 : Cond.instanceMethod yX4_back ∈ WT := wt_of (i := 583) (by decide +kernel) (by decide +kernel)
theorem wt_584 : Cond.selects RX4 yX4_back yX4_back ∈ WT := wt_of (i := 584) (by decide +kernel) (by decide +kernel)
theorem wt_585 : Cond.code yX4_back cX4_back 2 (Option.some FieldType.int) ∈ WT := wt_of (i := 585) (by decide +kernel) (by decide +kernel)
theorem wt_586 : Cond.methodLink RL 126 yX4_count ∈ WT := wt_of (i := 586) (by decide +kernel) (by decide +kernel)
theorem wt_587 : Cond.instanceMethod yX4_count ∈ WT := wt_of (i := 587) (by decide +kernel) (by decide +kernel)
theorem wt_588 : Cond.selects RX4 yX4_count yX4_count ∈ WT := wt_of (i := 588) (by decide +kernel) (by decide +kernel)
theorem wt_589 : Cond.code yX4_count cX4_count 2 (Option.some FieldType.int) ∈ WT := wt_of (i := 589) (by decide +kernel) (by decide +kernel)
theorem wt_590 : Cond.methodLink RL 130 yX4_trace ∈ WT := wt_of (i := 590) (by decide +kernel) (by decide +kernel)
theorem wt_591 : Cond.instanceMethod yX4_trace ∈ WT := wt_of (i := 591) (by decide +kernel) (by decide +kernel)
theorem wt_592 : Cond.selects RX4 yX4_trace yX4_trace ∈ WT := wt_of (i := 592) (by decide +kernel) (by decide +kernel)
theorem wt_593 : Cond.code yX4_trace cX4_trace 1 (Option.some FieldType.long) ∈ WT := wt_of (i := 593) (by decide +kernel) (by decide +kernel)
theorem wt_594 : Cond.classLink RL 10 "ThirstScalesModel" ∈ WT := wt_of (i := 594) (by decide +kernel) (by decide +kernel)
theorem wt_595 : Cond.instantiable RX5 21 ∈ WT := wt_of (i := 595) (by decide +kernel) (by decide +kernel)
theorem wt_596 : Cond.methodLink RL 12 yX5_init ∈ WT := wt_of (i := 596) (by decide +kernel) (by decide +kernel)
theorem wt_597 : Cond.instanceMethod yX5_init ∈ WT := wt_of (i := 597) (by decide +kernel) (by decide +kernel)
theorem wt_598 : Cond.code yX5_init cX5_init 1 (Option.none : Option FieldType) ∈ WT := wt_of (i := 598) (by decide +kernel) (by decide +kernel)
theorem wt_599 : Cond.methodLink RX5 1 objectInit ∈ WT := wt_of (i := 599) (by decide +kernel) (by decide +kernel)
theorem wt_600 : Cond.fieldLink RX5 174 "ThirstScalesModel" "trace" "J" ∈ WT := wt_of (i := 600) (by decide +kernel) (by decide +kernel)
theorem wt_601 : Cond.fieldLink RX5 7 "ThirstScalesModel" "text" "[B" ∈ WT := wt_of (i := 601) (by decide +kernel) (by decide +kernel)
theorem wt_602 : Cond.fieldLink RX5 48 "ThirstScalesModel" "typed" "I" ∈ WT := wt_of (i := 602) (by decide +kernel) (by decide +kernel)
theorem wt_603 : Cond.fieldLink RX5 13 "ThirstScalesModel" "loads" "[I" ∈ WT := wt_of (i := 603) (by decide +kernel) (by decide +kernel)
theorem wt_604 : Cond.fieldLink RX5 17 "ThirstScalesModel" "weights" "[I" ∈ WT := wt_of (i := 604) (by decide +kernel) (by decide +kernel)
theorem wt_605 : Cond.fieldLink RX5 20 "ThirstScalesModel" "tasters" "[I" ∈ WT := wt_of (i := 605) (by decide +kernel) (by decide +kernel)
theorem wt_606 : Cond.fieldLink RX5 23 "ThirstScalesModel" "as" "[I" ∈ WT := wt_of (i := 606) (by decide +kernel) (by decide +kernel)
theorem wt_607 : Cond.fieldLink RX5 26 "ThirstScalesModel" "bs" "[I" ∈ WT := wt_of (i := 607) (by decide +kernel) (by decide +kernel)
theorem wt_608 : Cond.fieldLink RX5 29 "ThirstScalesModel" "ds" "[I" ∈ WT := wt_of (i := 608) (by decide +kernel) (by decide +kernel)
theorem wt_609 : Cond.fieldLink RX5 32 "ThirstScalesModel" "ts" "[I" ∈ WT := wt_of (i := 609) (by decide +kernel) (by decide +kernel)
theorem wt_610 : Cond.fieldLink RX5 35 "ThirstScalesModel" "firstHeat" "[I" ∈ WT := wt_of (i := 610) (by decide +kernel) (by decide +kernel)
theorem wt_611 : Cond.fieldLink RX5 58 "ThirstScalesModel" "at" "I" ∈ WT := wt_of (i := 611) (by decide +kernel) (by decide +kernel)
theorem wt_612 : Cond.fieldLink RX5 65 "ThirstScalesModel" "start" "I" ∈ WT := wt_of (i := 612) (by decide +kernel) (by decide +kernel)
theorem wt_613 : Cond.fieldLink RX5 71 "ThirstScalesModel" "sort" "I" ∈ WT := wt_of (i := 613) (by decide +kernel) (by decide +kernel)
theorem wt_614 : Cond.fieldLink RX5 68 "ThirstScalesModel" "value" "I" ∈ WT := wt_of (i := 614) (by decide +kernel) (by decide +kernel)
theorem wt_615 : Cond.fieldLink RX5 77 "ThirstScalesModel" "fault" "I" ∈ WT := wt_of (i := 615) (by decide +kernel) (by decide +kernel)
theorem wt_616 : Cond.fieldLink RX5 87 "ThirstScalesModel" "hasHeat" "Z" ∈ WT := wt_of (i := 616) (by decide +kernel) (by decide +kernel)
theorem wt_617 : Cond.fieldLink RX5 38 "ThirstScalesModel" "now" "[I" ∈ WT := wt_of (i := 617) (by decide +kernel) (by decide +kernel)
theorem wt_618 : Cond.fieldLink RX5 41 "ThirstScalesModel" "isKept" "[Z" ∈ WT := wt_of (i := 618) (by decide +kernel) (by decide +kernel)
theorem wt_619 : Cond.fieldLink RX5 45 "ThirstScalesModel" "tasting" "[I" ∈ WT := wt_of (i := 619) (by decide +kernel) (by decide +kernel)
theorem wt_620 : Cond.fieldLink RX5 98 "ThirstScalesModel" "tastings" "I" ∈ WT := wt_of (i := 620) (by decide +kernel) (by decide +kernel)
theorem wt_621 : Cond.lays "ThirstScalesModel" "ThirstScalesModel" "trace" "J" ∈ WT := wt_of (i := 621) (by decide +kernel) (by decide +kernel)
theorem wt_622 : Cond.soleField "ThirstScalesModel" "trace" ∈ WT := wt_of (i := 622) (by decide +kernel) (by decide +kernel)
theorem wt_623 : Cond.laysFinal "ThirstScalesModel" "ThirstScalesModel" "text" "[B" ∈ WT := wt_of (i := 623) (by decide +kernel) (by decide +kernel)
theorem wt_624 : Cond.soleField "ThirstScalesModel" "text" ∈ WT := wt_of (i := 624) (by decide +kernel) (by decide +kernel)
theorem wt_625 : Cond.lays "ThirstScalesModel" "ThirstScalesModel" "typed" "I" ∈ WT := wt_of (i := 625) (by decide +kernel) (by decide +kernel)
theorem wt_626 : Cond.soleField "ThirstScalesModel" "typed" ∈ WT := wt_of (i := 626) (by decide +kernel) (by decide +kernel)
theorem wt_627 : Cond.laysFinal "ThirstScalesModel" "ThirstScalesModel" "loads" "[I" ∈ WT := wt_of (i := 627) (by decide +kernel) (by decide +kernel)
theorem wt_628 : Cond.soleField "ThirstScalesModel" "loads" ∈ WT := wt_of (i := 628) (by decide +kernel) (by decide +kernel)
theorem wt_629 : Cond.laysFinal "ThirstScalesModel" "ThirstScalesModel" "weights" "[I" ∈ WT := wt_of (i := 629) (by decide +kernel) (by decide +kernel)
theorem wt_630 : Cond.soleField "ThirstScalesModel" "weights" ∈ WT := wt_of (i := 630) (by decide +kernel) (by decide +kernel)
theorem wt_631 : Cond.laysFinal "ThirstScalesModel" "ThirstScalesModel" "tasters" "[I" ∈ WT := wt_of (i := 631) (by decide +kernel) (by decide +kernel)
theorem wt_632 : Cond.soleField "ThirstScalesModel" "tasters" ∈ WT := wt_of (i := 632) (by decide +kernel) (by decide +kernel)
theorem wt_633 : Cond.laysFinal "ThirstScalesModel" "ThirstScalesModel" "as" "[I" ∈ WT := wt_of (i := 633) (by decide +kernel) (by decide +kernel)
theorem wt_634 : Cond.soleField "ThirstScalesModel" "as" ∈ WT := wt_of (i := 634) (by decide +kernel) (by decide +kernel)
theorem wt_635 : Cond.laysFinal "ThirstScalesModel" "ThirstScalesModel" "bs" "[I" ∈ WT := wt_of (i := 635) (by decide +kernel) (by decide +kernel)
theorem wt_636 : Cond.soleField "ThirstScalesModel" "bs" ∈ WT := wt_of (i := 636) (by decide +kernel) (by decide +kernel)
theorem wt_637 : Cond.laysFinal "ThirstScalesModel" "ThirstScalesModel" "ds" "[I" ∈ WT := wt_of (i := 637) (by decide +kernel) (by decide +kernel)
theorem wt_638 : Cond.soleField "ThirstScalesModel" "ds" ∈ WT := wt_of (i := 638) (by decide +kernel) (by decide +kernel)
theorem wt_639 : Cond.laysFinal "ThirstScalesModel" "ThirstScalesModel" "ts" "[I" ∈ WT := wt_of (i := 639) (by decide +kernel) (by decide +kernel)
theorem wt_640 : Cond.soleField "ThirstScalesModel" "ts" ∈ WT := wt_of (i := 640) (by decide +kernel) (by decide +kernel)
theorem wt_641 : Cond.laysFinal "ThirstScalesModel" "ThirstScalesModel" "firstHeat" "[I" ∈ WT := wt_of (i := 641) (by decide +kernel) (by decide +kernel)
theorem wt_642 : Cond.soleField "ThirstScalesModel" "firstHeat" ∈ WT := wt_of (i := 642) (by decide +kernel) (by decide +kernel)
theorem wt_643 : Cond.lays "ThirstScalesModel" "ThirstScalesModel" "at" "I" ∈ WT := wt_of (i := 643) (by decide +kernel) (by decide +kernel)
theorem wt_644 : Cond.soleField "ThirstScalesModel" "at" ∈ WT := wt_of (i := 644) (by decide +kernel) (by decide +kernel)
theorem wt_645 : Cond.lays "ThirstScalesModel" "ThirstScalesModel" "start" "I" ∈ WT := wt_of (i := 645) (by decide +kernel) (by decide +kernel)
theorem wt_646 : Cond.soleField "ThirstScalesModel" "start" ∈ WT := wt_of (i := 646) (by decide +kernel) (by decide +kernel)
theorem wt_647 : Cond.lays "ThirstScalesModel" "ThirstScalesModel" "sort" "I" ∈ WT := wt_of (i := 647) (by decide +kernel) (by decide +kernel)
theorem wt_648 : Cond.soleField "ThirstScalesModel" "sort" ∈ WT := wt_of (i := 648) (by decide +kernel) (by decide +kernel)
theorem wt_649 : Cond.lays "ThirstScalesModel" "ThirstScalesModel" "value" "I" ∈ WT := wt_of (i := 649) (by decide +kernel) (by decide +kernel)
theorem wt_650 : Cond.soleField "ThirstScalesModel" "value" ∈ WT := wt_of (i := 650) (by decide +kernel) (by decide +kernel)
theorem wt_651 : Cond.lays "ThirstScalesModel" "ThirstScalesModel" "fault" "I" ∈ WT := wt_of (i := 651) (by decide +kernel) (by decide +kernel)
theorem wt_652 : Cond.soleField "ThirstScalesModel" "fault" ∈ WT := wt_of (i := 652) (by decide +kernel) (by decide +kernel)
theorem wt_653 : Cond.lays "ThirstScalesModel" "ThirstScalesModel" "hasHeat" "Z" ∈ WT := wt_of (i := 653) (by decide +kernel) (by decide +kernel)
theorem wt_654 : Cond.soleField "ThirstScalesModel" "hasHeat" ∈ WT := wt_of (i := 654) (by decide +kernel) (by decide +kernel)
theorem wt_655 : Cond.laysFinal "ThirstScalesModel" "ThirstScalesModel" "now" "[I" ∈ WT := wt_of (i := 655) (by decide +kernel) (by decide +kernel)
theorem wt_656 : Cond.soleField "ThirstScalesModel" "now" ∈ WT := wt_of (i := 656) (by decide +kernel) (by decide +kernel)
theorem wt_657 : Cond.laysFinal "ThirstScalesModel" "ThirstScalesModel" "isKept" "[Z" ∈ WT := wt_of (i := 657) (by decide +kernel) (by decide +kernel)
theorem wt_658 : Cond.soleField "ThirstScalesModel" "isKept" ∈ WT := wt_of (i := 658) (by decide +kernel) (by decide +kernel)
theorem wt_659 : Cond.laysFinal "ThirstScalesModel" "ThirstScalesModel" "tasting" "[I" ∈ WT := wt_of (i := 659) (by decide +kernel) (by decide +kernel)
theorem wt_660 : Cond.soleField "ThirstScalesModel" "tasting" ∈ WT := wt_of (i := 660) (by decide +kernel) (by decide +kernel)
theorem wt_661 : Cond.lays "ThirstScalesModel" "ThirstScalesModel" "tastings" "I" ∈ WT := wt_of (i := 661) (by decide +kernel) (by decide +kernel)
theorem wt_662 : Cond.soleField "ThirstScalesModel" "tastings" ∈ WT := wt_of (i := 662) (by decide +kernel) (by decide +kernel)
theorem wt_663 : Cond.superclass "ThirstScalesModel" "java/lang/Object" ∈ WT := wt_of (i := 663) (by decide +kernel) (by decide +kernel)
theorem wt_664 : Cond.arrayClass FieldType.boolean ∈ WT := wt_of (i := 664) (by decide +kernel) (by decide +kernel)
theorem wt_665 : Cond.methodLink RL 19 yX5_type ∈ WT := wt_of (i := 665) (by decide +kernel) (by decide +kernel)
theorem wt_666 : Cond.instanceMethod yX5_type ∈ WT := wt_of (i := 666) (by decide +kernel) (by decide +kernel)
theorem wt_667 : Cond.selects RX5 yX5_type yX5_type ∈ WT := wt_of (i := 667) (by decide +kernel) (by decide +kernel)
theorem wt_668 : Cond.code yX5_type cX5_type 5 (Option.some FieldType.int) ∈ WT := wt_of (i := 668) (by decide +kernel) (by decide +kernel)
theorem wt_669 : Cond.methodLink RX5 52 yX5_in ∈ WT := wt_of (i := 669) (by decide +kernel) (by decide +kernel)
theorem wt_670 : Cond.static yX5_in ∈ WT := wt_of (i := 670) (by decide +kernel) (by decide +kernel)
theorem wt_671 : Cond.code yX5_in cX5_in 3 (Option.some FieldType.boolean) ∈ WT := wt_of (i := 671) (by decide +kernel) (by decide +kernel)
theorem wt_672 : Cond.constantLong RX5 56 (255 : Int64) ∈ WT := wt_of (i := 672) (by decide +kernel) (by decide +kernel)
theorem wt_673 : Cond.methodLink RL 24 yX5_clear ∈ WT := wt_of (i := 673) (by decide +kernel) (by decide +kernel)
theorem wt_674 : Cond.instanceMethod yX5_clear ∈ WT := wt_of (i := 674) (by decide +kernel) (by decide +kernel)
theorem wt_675 : Cond.selects RX5 yX5_clear yX5_clear ∈ WT := wt_of (i := 675) (by decide +kernel) (by decide +kernel)
theorem wt_676 : Cond.code yX5_clear cX5_clear 2 (Option.some FieldType.int) ∈ WT := wt_of (i := 676) (by decide +kernel) (by decide +kernel)
theorem wt_677 : Cond.methodLink RL 28 yX5_gate ∈ WT := wt_of (i := 677) (by decide +kernel) (by decide +kernel)
theorem wt_678 : Cond.instanceMethod yX5_gate ∈ WT := wt_of (i := 678) (by decide +kernel) (by decide +kernel)
theorem wt_679 : Cond.selects RX5 yX5_gate yX5_gate ∈ WT := wt_of (i := 679) (by decide +kernel) (by decide +kernel)
theorem wt_680 : Cond.code yX5_gate cX5_gate 3 (Option.some FieldType.int) ∈ WT := wt_of (i := 680) (by decide +kernel) (by decide +kernel)
theorem wt_681 : Cond.methodLink RX5 80 yX5_step ∈ WT := wt_of (i := 681) (by decide +kernel) (by decide +kernel)
theorem wt_683 : Cond.instanceMethod yX5_step ∈ WT := wt_of (i := 683) (by decide +kernel) (by decide +kernel)
theorem wt_684 : Cond.code yX5_step cX5_step 3 (Option.none : Option FieldType) ∈ WT := wt_of (i := 684) (by decide +kernel) (by decide +kernel)
theorem wt_685 : Cond.methodLink RX5 61 yX5_here ∈ WT := wt_of (i := 685) (by decide +kernel) (by decide +kernel)
theorem wt_687 : Cond.instanceMethod yX5_here ∈ WT := wt_of (i := 687) (by decide +kernel) (by decide +kernel)
theorem wt_688 : Cond.code yX5_here cX5_here 1 (Option.some FieldType.int) ∈ WT := wt_of (i := 688) (by decide +kernel) (by decide +kernel)
theorem wt_689 : Cond.constant RX5 74 (247162 : Int32) ∈ WT := wt_of (i := 689) (by decide +kernel) (by decide +kernel)
theorem wt_690 : Cond.constant RX5 75 (287898291 : Int32) ∈ WT := wt_of (i := 690) (by decide +kernel) (by decide +kernel)
theorem wt_691 : Cond.constant RX5 76 (161156 : Int32) ∈ WT := wt_of (i := 691) (by decide +kernel) (by decide +kernel)
theorem wt_692 : Cond.methodLink RX5 95 yX5_readItem ∈ WT := wt_of (i := 692) (by decide +kernel) (by decide +kernel)
theorem wt_694 : Cond.instanceMethod yX5_readItem ∈ WT := wt_of (i := 694) (by decide +kernel) (by decide +kernel)
theorem wt_695 : Cond.code yX5_readItem cX5_readItem 3 (Option.none : Option FieldType) ∈ WT := wt_of (i := 695) (by decide +kernel) (by decide +kernel)
theorem wt_696 : Cond.methodLink RX5 83 yX5_due ∈ WT := wt_of (i := 696) (by decide +kernel) (by decide +kernel)
theorem wt_698 : Cond.instanceMethod yX5_due ∈ WT := wt_of (i := 698) (by decide +kernel) (by decide +kernel)
theorem wt_699 : Cond.code yX5_due cX5_due 3 (Option.some FieldType.int) ∈ WT := wt_of (i := 699) (by decide +kernel) (by decide +kernel)
theorem wt_700 : Cond.methodLink RX5 91 yX5_number ∈ WT := wt_of (i := 700) (by decide +kernel) (by decide +kernel)
theorem wt_702 : Cond.instanceMethod yX5_number ∈ WT := wt_of (i := 702) (by decide +kernel) (by decide +kernel)
theorem wt_703 : Cond.code yX5_number cX5_number 3 (Option.some FieldType.int) ∈ WT := wt_of (i := 703) (by decide +kernel) (by decide +kernel)
theorem wt_704 : Cond.methodLink RL 33 yX5_load ∈ WT := wt_of (i := 704) (by decide +kernel) (by decide +kernel)
theorem wt_705 : Cond.instanceMethod yX5_load ∈ WT := wt_of (i := 705) (by decide +kernel) (by decide +kernel)
theorem wt_706 : Cond.selects RX5 yX5_load yX5_load ∈ WT := wt_of (i := 706) (by decide +kernel) (by decide +kernel)
theorem wt_707 : Cond.code yX5_load cX5_load 2 (Option.some FieldType.int) ∈ WT := wt_of (i := 707) (by decide +kernel) (by decide +kernel)
theorem wt_708 : Cond.methodLink RX5 105 yX5_isLoad ∈ WT := wt_of (i := 708) (by decide +kernel) (by decide +kernel)
theorem wt_710 : Cond.instanceMethod yX5_isLoad ∈ WT := wt_of (i := 710) (by decide +kernel) (by decide +kernel)
theorem wt_711 : Cond.code yX5_isLoad cX5_isLoad 2 (Option.some FieldType.boolean) ∈ WT := wt_of (i := 711) (by decide +kernel) (by decide +kernel)
theorem wt_712 : Cond.methodLink RL 38 yX5_taster ∈ WT := wt_of (i := 712) (by decide +kernel) (by decide +kernel)
theorem wt_713 : Cond.instanceMethod yX5_taster ∈ WT := wt_of (i := 713) (by decide +kernel) (by decide +kernel)
theorem wt_714 : Cond.selects RX5 yX5_taster yX5_taster ∈ WT := wt_of (i := 714) (by decide +kernel) (by decide +kernel)
theorem wt_715 : Cond.code yX5_taster cX5_taster 3 (Option.some FieldType.int) ∈ WT := wt_of (i := 715) (by decide +kernel) (by decide +kernel)
theorem wt_716 : Cond.methodLink RX5 109 yX5_isTaster ∈ WT := wt_of (i := 716) (by decide +kernel) (by decide +kernel)
theorem wt_718 : Cond.instanceMethod yX5_isTaster ∈ WT := wt_of (i := 718) (by decide +kernel) (by decide +kernel)
theorem wt_719 : Cond.code yX5_isTaster cX5_isTaster 2 (Option.some FieldType.boolean) ∈ WT := wt_of (i := 719) (by decide +kernel) (by decide +kernel)
theorem wt_720 : Cond.methodLink RL 43 yX5_cups ∈ WT := wt_of (i := 720) (by decide +kernel) (by decide +kernel)
theorem wt_721 : Cond.instanceMethod yX5_cups ∈ WT := wt_of (i := 721) (by decide +kernel) (by decide +kernel)
theorem wt_722 : Cond.selects RX5 yX5_cups yX5_cups ∈ WT := wt_of (i := 722) (by decide +kernel) (by decide +kernel)
theorem wt_723 : Cond.code yX5_cups cX5_cups 4 (Option.some FieldType.int) ∈ WT := wt_of (i := 723) (by decide +kernel) (by decide +kernel)
theorem wt_724 : Cond.methodLink RX5 112 yX5_cupsOf ∈ WT := wt_of (i := 724) (by decide +kernel) (by decide +kernel)
theorem wt_726 : Cond.instanceMethod yX5_cupsOf ∈ WT := wt_of (i := 726) (by decide +kernel) (by decide +kernel)
theorem wt_727 : Cond.code yX5_cupsOf cX5_cupsOf 5 (Option.some FieldType.int) ∈ WT := wt_of (i := 727) (by decide +kernel) (by decide +kernel)
theorem wt_728 : Cond.methodLink RX5 101 yX5_byLaw ∈ WT := wt_of (i := 728) (by decide +kernel) (by decide +kernel)
theorem wt_729 : Cond.static yX5_byLaw ∈ WT := wt_of (i := 729) (by decide +kernel) (by decide +kernel)
theorem wt_730 : Cond.code yX5_byLaw cX5_byLaw 8 (Option.some FieldType.int) ∈ WT := wt_of (i := 730) (by decide +kernel) (by decide +kernel)
theorem wt_731 : Cond.methodLink RL 47 yX5_weighs ∈ WT := wt_of (i := 731) (by decide +kernel) (by decide +kernel)
theorem wt_732 : Cond.instanceMethod yX5_weighs ∈ WT := wt_of (i := 732) (by decide +kernel) (by decide +kernel)
theorem wt_733 : Cond.selects RX5 yX5_weighs yX5_weighs ∈ WT := wt_of (i := 733) (by decide +kernel) (by decide +kernel)
theorem wt_734 : Cond.code yX5_weighs cX5_weighs 4 (Option.some FieldType.int) ∈ WT := wt_of (i := 734) (by decide +kernel) (by decide +kernel)
theorem wt_735 : Cond.methodLink RX5 116 yX5_know ∈ WT := wt_of (i := 735) (by decide +kernel) (by decide +kernel)
theorem wt_737 : Cond.instanceMethod yX5_know ∈ WT := wt_of (i := 737) (by decide +kernel) (by decide +kernel)
theorem wt_738 : Cond.code yX5_know cX5_know 6 (Option.none : Option FieldType) ∈ WT := wt_of (i := 738) (by decide +kernel) (by decide +kernel)
theorem wt_739 : Cond.methodLink RL 51 yX5_says ∈ WT := wt_of (i := 739) (by decide +kernel) (by decide +kernel)
theorem wt_740 : Cond.instanceMethod yX5_says ∈ WT := wt_of (i := 740) (by decide +kernel) (by decide +kernel)
theorem wt_741 : Cond.selects RX5 yX5_says yX5_says ∈ WT := wt_of (i := 741) (by decide +kernel) (by decide +kernel)
theorem wt_742 : Cond.code yX5_says cX5_says 4 (Option.some FieldType.int) ∈ WT := wt_of (i := 742) (by decide +kernel) (by decide +kernel)
theorem wt_743 : Cond.methodLink RL 56 yX5_jug ∈ WT := wt_of (i := 743) (by decide +kernel) (by decide +kernel)
theorem wt_744 : Cond.instanceMethod yX5_jug ∈ WT := wt_of (i := 744) (by decide +kernel) (by decide +kernel)
theorem wt_745 : Cond.selects RX5 yX5_jug yX5_jug ∈ WT := wt_of (i := 745) (by decide +kernel) (by decide +kernel)
theorem wt_746 : Cond.code yX5_jug cX5_jug 8 (Option.some FieldType.int) ∈ WT := wt_of (i := 746) (by decide +kernel) (by decide +kernel)
theorem wt_747 : Cond.methodLink RL 60 yX5_night ∈ WT := wt_of (i := 747) (by decide +kernel) (by decide +kernel)
theorem wt_748 : Cond.instanceMethod yX5_night ∈ WT := wt_of (i := 748) (by decide +kernel) (by decide +kernel)
theorem wt_749 : Cond.selects RX5 yX5_night yX5_night ∈ WT := wt_of (i := 749) (by decide +kernel) (by decide +kernel)
theorem wt_750 : Cond.code yX5_night cX5_night 3 (Option.some FieldType.int) ∈ WT := wt_of (i := 750) (by decide +kernel) (by decide +kernel)
theorem wt_751 : Cond.methodLink RL 64 yX5_heat ∈ WT := wt_of (i := 751) (by decide +kernel) (by decide +kernel)
theorem wt_752 : Cond.instanceMethod yX5_heat ∈ WT := wt_of (i := 752) (by decide +kernel) (by decide +kernel)
theorem wt_753 : Cond.selects RX5 yX5_heat yX5_heat ∈ WT := wt_of (i := 753) (by decide +kernel) (by decide +kernel)
theorem wt_754 : Cond.code yX5_heat cX5_heat 3 (Option.some FieldType.int) ∈ WT := wt_of (i := 754) (by decide +kernel) (by decide +kernel)
theorem wt_755 : Cond.methodLink RL 68 yX5_undo ∈ WT := wt_of (i := 755) (by decide +kernel) (by decide +kernel)
theorem wt_756 : Cond.instanceMethod yX5_undo ∈ WT := wt_of (i := 756) (by decide +kernel) (by decide +kernel)
theorem wt_757 : Cond.selects RX5 yX5_undo yX5_undo ∈ WT := wt_of (i := 757) (by decide +kernel) (by decide +kernel)
theorem wt_758 : Cond.code yX5_undo cX5_undo 3 (Option.some FieldType.int) ∈ WT := wt_of (i := 758) (by decide +kernel) (by decide +kernel)
theorem wt_759 : Cond.methodLink RL 72 yX5_known ∈ WT := wt_of (i := 759) (by decide +kernel) (by decide +kernel)
theorem wt_760 : Cond.instanceMethod yX5_known ∈ WT := wt_of (i := 760) (by decide +kernel) (by decide +kernel)
theorem wt_761 : Cond.selects RX5 yX5_known yX5_known ∈ WT := wt_of (i := 761) (by decide +kernel) (by decide +kernel)
theorem wt_762 : Cond.code yX5_known cX5_known 3 (Option.some FieldType.int) ∈ WT := wt_of (i := 762) (by decide +kernel) (by decide +kernel)
theorem wt_763 : Cond.methodLink RL 76 yX5_canBe ∈ WT := wt_of (i := 763) (by decide +kernel) (by decide +kernel)
theorem wt_764 : Cond.instanceMethod yX5_canBe ∈ WT := wt_of (i := 764) (by decide +kernel) (by decide +kernel)
theorem wt_765 : Cond.selects RX5 yX5_canBe yX5_canBe ∈ WT := wt_of (i := 765) (by decide +kernel) (by decide +kernel)
theorem wt_766 : Cond.code yX5_canBe cX5_canBe 5 (Option.some FieldType.int) ∈ WT := wt_of (i := 766) (by decide +kernel) (by decide +kernel)
theorem wt_767 : Cond.methodLink RX5 120 yX5_canBeOf ∈ WT := wt_of (i := 767) (by decide +kernel) (by decide +kernel)
theorem wt_769 : Cond.instanceMethod yX5_canBeOf ∈ WT := wt_of (i := 769) (by decide +kernel) (by decide +kernel)
theorem wt_770 : Cond.code yX5_canBeOf cX5_canBeOf 8 (Option.some FieldType.long) ∈ WT := wt_of (i := 770) (by decide +kernel) (by decide +kernel)
theorem wt_771 : Cond.methodLink RX5 124 yX5_manyOf ∈ WT := wt_of (i := 771) (by decide +kernel) (by decide +kernel)
theorem wt_772 : Cond.static yX5_manyOf ∈ WT := wt_of (i := 772) (by decide +kernel) (by decide +kernel)
theorem wt_773 : Cond.code yX5_manyOf cX5_manyOf 4 (Option.some FieldType.int) ∈ WT := wt_of (i := 773) (by decide +kernel) (by decide +kernel)
theorem wt_774 : Cond.methodLink RX5 128 yX5_least ∈ WT := wt_of (i := 774) (by decide +kernel) (by decide +kernel)
theorem wt_775 : Cond.static yX5_least ∈ WT := wt_of (i := 775) (by decide +kernel) (by decide +kernel)
theorem wt_776 : Cond.code yX5_least cX5_least 3 (Option.some FieldType.int) ∈ WT := wt_of (i := 776) (by decide +kernel) (by decide +kernel)
theorem wt_777 : Cond.methodLink RX5 131 yX5_most ∈ WT := wt_of (i := 777) (by decide +kernel) (by decide +kernel)
theorem wt_778 : Cond.static yX5_most ∈ WT := wt_of (i := 778) (by decide +kernel) (by decide +kernel)
theorem wt_779 : Cond.code yX5_most cX5_most 3 (Option.some FieldType.int) ∈ WT := wt_of (i := 779) (by decide +kernel) (by decide +kernel)
theorem wt_780 : Cond.methodLink RL 80 yX5_next ∈ WT := wt_of (i := 780) (by decide +kernel) (by decide +kernel)
theorem wt_781 : Cond.instanceMethod yX5_next ∈ WT := wt_of (i := 781) (by decide +kernel) (by decide +kernel)
theorem wt_782 : Cond.selects RX5 yX5_next yX5_next ∈ WT := wt_of (i := 782) (by decide +kernel) (by decide +kernel)
theorem wt_783 : Cond.code yX5_next cX5_next 9 (Option.some FieldType.int) ∈ WT := wt_of (i := 783) (by decide +kernel) (by decide +kernel)
theorem wt_784 : Cond.methodLink RX5 140 yX5_worst ∈ WT := wt_of (i := 784) (by decide +kernel) (by decide +kernel)
theorem wt_786 : Cond.instanceMethod yX5_worst ∈ WT := wt_of (i := 786) (by decide +kernel) (by decide +kernel)
theorem wt_787 : Cond.code yX5_worst cX5_worst 9 (Option.some FieldType.int) ∈ WT := wt_of (i := 787) (by decide +kernel) (by decide +kernel)
theorem wt_788 : Cond.methodLink RX5 134 yX5_part ∈ WT := wt_of (i := 788) (by decide +kernel) (by decide +kernel)
theorem wt_790 : Cond.instanceMethod yX5_part ∈ WT := wt_of (i := 790) (by decide +kernel) (by decide +kernel)
theorem wt_791 : Cond.code yX5_part cX5_part 8 (Option.some FieldType.long) ∈ WT := wt_of (i := 791) (by decide +kernel) (by decide +kernel)
theorem wt_792 : Cond.constantLong RX5 138 (-1 : Int64) ∈ WT := wt_of (i := 792) (by decide +kernel) (by decide +kernel)
theorem wt_793 : Cond.methodLink RL 84 yX5_enough ∈ WT := wt_of (i := 793) (by decide +kernel) (by decide +kernel)
theorem wt_794 : Cond.instanceMethod yX5_enough ∈ WT := wt_of (i := 794) (by decide +kernel) (by decide +kernel)
theorem wt_795 : Cond.selects RX5 yX5_enough yX5_enough ∈ WT := wt_of (i := 795) (by decide +kernel) (by decide +kernel)
theorem wt_796 : Cond.code yX5_enough cX5_enough 5 (Option.some FieldType.int) ∈ WT := wt_of (i := 796) (by decide +kernel) (by decide +kernel)
theorem wt_797 : Cond.methodLink RX5 144 yX5_isEnoughByOne ∈ WT := wt_of (i := 797) (by decide +kernel) (by decide +kernel)
theorem wt_799 : Cond.instanceMethod yX5_isEnoughByOne ∈ WT := wt_of (i := 799) (by decide +kernel) (by decide +kernel)
theorem wt_800 : Cond.code yX5_isEnoughByOne cX5_isEnoughByOne 6 (Option.some FieldType.boolean) ∈ WT := wt_of (i := 800) (by decide +kernel) (by decide +kernel)
theorem wt_801 : Cond.methodLink RX5 148 yX5_isEnoughByTwo ∈ WT := wt_of (i := 801) (by decide +kernel) (by decide +kernel)
theorem wt_803 : Cond.instanceMethod yX5_isEnoughByTwo ∈ WT := wt_of (i := 803) (by decide +kernel) (by decide +kernel)
theorem wt_804 : Cond.code yX5_isEnoughByTwo cX5_isEnoughByTwo 10 (Option.some FieldType.boolean) ∈ WT := wt_of (i := 804) (by decide +kernel) (by decide +kernel)
theorem wt_805 : Cond.methodLink RX5 151 yX5_isEnoughByThree ∈ WT := wt_of (i := 805) (by decide +kernel) (by decide +kernel)
theorem wt_807 : Cond.instanceMethod yX5_isEnoughByThree ∈ WT := wt_of (i := 807) (by decide +kernel) (by decide +kernel)
theorem wt_808 : Cond.code yX5_isEnoughByThree cX5_isEnoughByThree 10 (Option.some FieldType.boolean) ∈ WT := wt_of (i := 808) (by decide +kernel) (by decide +kernel)
theorem wt_809 : Cond.methodLink RL 88 yX5_heavier ∈ WT := wt_of (i := 809) (by decide +kernel) (by decide +kernel)
theorem wt_810 : Cond.instanceMethod yX5_heavier ∈ WT := wt_of (i := 810) (by decide +kernel) (by decide +kernel)
theorem wt_811 : Cond.selects RX5 yX5_heavier yX5_heavier ∈ WT := wt_of (i := 811) (by decide +kernel) (by decide +kernel)
theorem wt_812 : Cond.code yX5_heavier cX5_heavier 7 (Option.some FieldType.int) ∈ WT := wt_of (i := 812) (by decide +kernel) (by decide +kernel)
theorem wt_813 : Cond.methodLink RL 93 yX5_told ∈ WT := wt_of (i := 813) (by decide +kernel) (by decide +kernel)
theorem wt_814 : Cond.instanceMethod yX5_told ∈ WT := wt_of (i := 814) (by decide +kernel) (by decide +kernel)
theorem wt_815 : Cond.selects RX5 yX5_told yX5_told ∈ WT := wt_of (i := 815) (by decide +kernel) (by decide +kernel)
theorem wt_816 : Cond.code yX5_told cX5_told 5 (Option.some FieldType.int) ∈ WT := wt_of (i := 816) (by decide +kernel) (by decide +kernel)
theorem wt_817 : Cond.methodLink RX5 154 yX5_isTasting ∈ WT := wt_of (i := 817) (by decide +kernel) (by decide +kernel)
theorem wt_818 : Cond.static yX5_isTasting ∈ WT := wt_of (i := 818) (by decide +kernel) (by decide +kernel)
theorem wt_819 : Cond.code yX5_isTasting cX5_isTasting 3 (Option.some FieldType.boolean) ∈ WT := wt_of (i := 819) (by decide +kernel) (by decide +kernel)
theorem wt_820 : Cond.methodLink RL 97 yX5_forget ∈ WT := wt_of (i := 820) (by decide +kernel) (by decide +kernel)
theorem wt_821 : Cond.instanceMethod yX5_forget ∈ WT := wt_of (i := 821) (by decide +kernel) (by decide +kernel)
theorem wt_822 : Cond.selects RX5 yX5_forget yX5_forget ∈ WT := wt_of (i := 822) (by decide +kernel) (by decide +kernel)
theorem wt_823 : Cond.code yX5_forget cX5_forget 2 (Option.some FieldType.int) ∈ WT := wt_of (i := 823) (by decide +kernel) (by decide +kernel)
theorem wt_824 : Cond.methodLink RL 101 yX5_learnt ∈ WT := wt_of (i := 824) (by decide +kernel) (by decide +kernel)
theorem wt_825 : Cond.instanceMethod yX5_learnt ∈ WT := wt_of (i := 825) (by decide +kernel) (by decide +kernel)
theorem wt_826 : Cond.selects RX5 yX5_learnt yX5_learnt ∈ WT := wt_of (i := 826) (by decide +kernel) (by decide +kernel)
theorem wt_827 : Cond.code yX5_learnt cX5_learnt 5 (Option.some FieldType.int) ∈ WT := wt_of (i := 827) (by decide +kernel) (by decide +kernel)
theorem wt_828 : Cond.methodLink RX5 170 yX5_isAsTold ∈ WT := wt_of (i := 828) (by decide +kernel) (by decide +kernel)
theorem wt_830 : Cond.instanceMethod yX5_isAsTold ∈ WT := wt_of (i := 830) (by decide +kernel) (by decide +kernel)
theorem wt_831 : Cond.code yX5_isAsTold cX5_isAsTold 5 (Option.some FieldType.boolean) ∈ WT := wt_of (i := 831) (by decide +kernel) (by decide +kernel)
theorem wt_832 : Cond.methodLink RX5 157 yX5_aOf ∈ WT := wt_of (i := 832) (by decide +kernel) (by decide +kernel)
theorem wt_833 : Cond.static yX5_aOf ∈ WT := wt_of (i := 833) (by decide +kernel) (by decide +kernel)
theorem wt_834 : Cond.code yX5_aOf cX5_aOf 1 (Option.some FieldType.int) ∈ WT := wt_of (i := 834) (by decide +kernel) (by decide +kernel)
theorem wt_835 : Cond.methodLink RX5 161 yX5_bOf ∈ WT := wt_of (i := 835) (by decide +kernel) (by decide +kernel)
theorem wt_836 : Cond.static yX5_bOf ∈ WT := wt_of (i := 836) (by decide +kernel) (by decide +kernel)
theorem wt_837 : Cond.code yX5_bOf cX5_bOf 1 (Option.some FieldType.int) ∈ WT := wt_of (i := 837) (by decide +kernel) (by decide +kernel)
theorem wt_838 : Cond.methodLink RX5 164 yX5_dOf ∈ WT := wt_of (i := 838) (by decide +kernel) (by decide +kernel)
theorem wt_839 : Cond.static yX5_dOf ∈ WT := wt_of (i := 839) (by decide +kernel) (by decide +kernel)
theorem wt_840 : Cond.code yX5_dOf cX5_dOf 1 (Option.some FieldType.int) ∈ WT := wt_of (i := 840) (by decide +kernel) (by decide +kernel)
theorem wt_841 : Cond.methodLink RX5 167 yX5_tOf ∈ WT := wt_of (i := 841) (by decide +kernel) (by decide +kernel)
theorem wt_842 : Cond.static yX5_tOf ∈ WT := wt_of (i := 842) (by decide +kernel) (by decide +kernel)
theorem wt_843 : Cond.code yX5_tOf cX5_tOf 1 (Option.some FieldType.int) ∈ WT := wt_of (i := 843) (by decide +kernel) (by decide +kernel)
theorem wt_844 : Cond.methodLink RL 105 yX5_may ∈ WT := wt_of (i := 844) (by decide +kernel) (by decide +kernel)
theorem wt_845 : Cond.instanceMethod yX5_may ∈ WT := wt_of (i := 845) (by decide +kernel) (by decide +kernel)
theorem wt_846 : Cond.selects RX5 yX5_may yX5_may ∈ WT := wt_of (i := 846) (by decide +kernel) (by decide +kernel)
theorem wt_847 : Cond.code yX5_may cX5_may 9 (Option.some FieldType.int) ∈ WT := wt_of (i := 847) (by decide +kernel) (by decide +kernel)
theorem wt_848 : Cond.methodLink RL 109 yX5_bribed ∈ WT := wt_of (i := 848) (by decide +kernel) (by decide +kernel)
theorem wt_849 : Cond.instanceMethod yX5_bribed ∈ WT := wt_of (i := 849) (by decide +kernel) (by decide +kernel)
theorem wt_850 : Cond.selects RX5 yX5_bribed yX5_bribed ∈ WT := wt_of (i := 850) (by decide +kernel) (by decide +kernel)
theorem wt_851 : Cond.code yX5_bribed cX5_bribed 5 (Option.some FieldType.int) ∈ WT := wt_of (i := 851) (by decide +kernel) (by decide +kernel)
theorem wt_852 : Cond.methodLink RL 113 yX5_memory ∈ WT := wt_of (i := 852) (by decide +kernel) (by decide +kernel)
theorem wt_853 : Cond.instanceMethod yX5_memory ∈ WT := wt_of (i := 853) (by decide +kernel) (by decide +kernel)
theorem wt_854 : Cond.selects RX5 yX5_memory yX5_memory ∈ WT := wt_of (i := 854) (by decide +kernel) (by decide +kernel)
theorem wt_855 : Cond.code yX5_memory cX5_memory 9 (Option.some FieldType.int) ∈ WT := wt_of (i := 855) (by decide +kernel) (by decide +kernel)
theorem wt_856 : Cond.methodLink RL 117 yX5_mark ∈ WT := wt_of (i := 856) (by decide +kernel) (by decide +kernel)
theorem wt_857 : Cond.instanceMethod yX5_mark ∈ WT := wt_of (i := 857) (by decide +kernel) (by decide +kernel)
theorem wt_858 : Cond.selects RX5 yX5_mark yX5_mark ∈ WT := wt_of (i := 858) (by decide +kernel) (by decide +kernel)
theorem wt_859 : Cond.code yX5_mark cX5_mark 3 (Option.some FieldType.int) ∈ WT := wt_of (i := 859) (by decide +kernel) (by decide +kernel)
theorem wt_860 : Cond.constant RX5 173 (-1000000 : Int32) ∈ WT := wt_of (i := 860) (by decide +kernel) (by decide +kernel)
theorem wt_861 : Cond.constantLong RX5 178 (11 : Int64) ∈ WT := wt_of (i := 861) (by decide +kernel) (by decide +kernel)
theorem wt_862 : Cond.constantLong RX5 180 (101 : Int64) ∈ WT := wt_of (i := 862) (by decide +kernel) (by decide +kernel)
theorem wt_863 : Cond.constantLong RX5 182 (1011 : Int64) ∈ WT := wt_of (i := 863) (by decide +kernel) (by decide +kernel)
theorem wt_864 : Cond.constantLong RX5 184 (10101 : Int64) ∈ WT := wt_of (i := 864) (by decide +kernel) (by decide +kernel)
theorem wt_865 : Cond.constantLong RX5 186 (100001 : Int64) ∈ WT := wt_of (i := 865) (by decide +kernel) (by decide +kernel)
theorem wt_866 : Cond.methodLink RL 121 yX5_keep ∈ WT := wt_of (i := 866) (by decide +kernel) (by decide +kernel)
theorem wt_867 : Cond.instanceMethod yX5_keep ∈ WT := wt_of (i := 867) (by decide +kernel) (by decide +kernel)
theorem wt_868 : Cond.selects RX5 yX5_keep yX5_keep ∈ WT := wt_of (i := 868) (by decide +kernel) (by decide +kernel)
theorem wt_869 : Cond.code yX5_keep cX5_keep 2 (Option.some FieldType.int) ∈ WT := wt_of (i := 869) (by decide +kernel) (by decide +kernel)
theorem wt_870 : Cond.methodLink RX5 188 yX5_copy ∈ WT := wt_of (i := 870) (by decide +kernel) (by decide +kernel)
theorem wt_872 : Cond.instanceMethod yX5_copy ∈ WT := wt_of (i := 872) (by decide +kernel) (by decide +kernel)
theorem wt_873 : Cond.code yX5_copy cX5_copy 4 (Option.none : Option FieldType) ∈ WT := wt_of (i := 873) (by decide +kernel) (by decide +kernel)
theorem wt_874 : Cond.methodLink RL 125 yX5_back ∈ WT := wt_of (i := 874) (by decide +kernel) (by decide +kernel)
theorem wt_875 : Cond.instanceMethod yX5_back ∈ WT := wt_of (i := 875) (by decide +kernel) (by decide +kernel)
theorem wt_876 : Cond.selects RX5 yX5_back yX5_back ∈ WT := wt_of (i := 876) (by decide +kernel) (by decide +kernel)
theorem wt_877 : Cond.code yX5_back cX5_back 2 (Option.some FieldType.int) ∈ WT := wt_of (i := 877) (by decide +kernel) (by decide +kernel)
theorem wt_878 : Cond.methodLink RL 129 yX5_count ∈ WT := wt_of (i := 878) (by decide +kernel) (by decide +kernel)
theorem wt_879 : Cond.instanceMethod yX5_count ∈ WT := wt_of (i := 879) (by decide +kernel) (by decide +kernel)
theorem wt_880 : Cond.selects RX5 yX5_count yX5_count ∈ WT := wt_of (i := 880) (by decide +kernel) (by decide +kernel)
theorem wt_881 : Cond.code yX5_count cX5_count 2 (Option.some FieldType.int) ∈ WT := wt_of (i := 881) (by decide +kernel) (by decide +kernel)
theorem wt_882 : Cond.methodLink RL 134 yX5_trace ∈ WT := wt_of (i := 882) (by decide +kernel) (by decide +kernel)
theorem wt_883 : Cond.instanceMethod yX5_trace ∈ WT := wt_of (i := 883) (by decide +kernel) (by decide +kernel)
theorem wt_884 : Cond.selects RX5 yX5_trace yX5_trace ∈ WT := wt_of (i := 884) (by decide +kernel) (by decide +kernel)
theorem wt_885 : Cond.code yX5_trace cX5_trace 1 (Option.some FieldType.long) ∈ WT := wt_of (i := 885) (by decide +kernel) (by decide +kernel)
theorem wt_886 : Cond.constantLong RL 13 (4294967295 : Int64) ∈ WT := wt_of (i := 886) (by decide +kernel) (by decide +kernel)
theorem wt_887 : Cond.fieldLink RJ0 9 "java/lang/String" "value" "[B" ∈ WT := wt_of (i := 887) (by decide +kernel) (by decide +kernel)
theorem wt_888 : Cond.fieldLink RJ0 15 "java/lang/String" "coder" "B" ∈ WT := wt_of (i := 888) (by decide +kernel) (by decide +kernel)
def Yd (y : MethodName) (n : Nat) : Prop := (y.cls ≠ "java/lang/invoke/MethodHandle" ∧ y.cls ≠ "java/lang/invoke/VarHandle") ∧ (parseMethodDescriptor y.desc).map (fun d => d.parameters.length) = some n
def LkV (own : String) (idx : Nat) (y : MethodName) (bytes : ByteArray) (maxL : Nat) (ret : Option FieldType) (n : Nat) : Prop := Cond.methodLink own idx y ∈ WT ∧ Cond.instanceMethod y ∈ WT ∧ Cond.selects y.cls y y ∈ WT ∧ Cond.initialized y.cls ∈ WT ∧ Cond.code y bytes maxL ret ∈ WT ∧ Yd y n
def LkS (own : String) (idx : Nat) (y : MethodName) (bytes : ByteArray) (maxL : Nat) (ret : Option FieldType) (n : Nat) : Prop := Cond.methodLink own idx y ∈ WT ∧ Cond.static y ∈ WT ∧ Cond.initialized y.cls ∈ WT ∧ Cond.code y bytes maxL ret ∈ WT ∧ Yd y n
def LkI (own : String) (idx : Nat) (y : MethodName) (bytes : ByteArray) (maxL : Nat) (n : Nat) : Prop := Cond.methodLink own idx y ∈ WT ∧ Cond.instanceMethod y ∈ WT ∧ Cond.initialized y.cls ∈ WT ∧ Cond.code y bytes maxL none ∈ WT ∧ Yd y n ∧ y.name = "<init>"
theorem yd_yX4_init : Yd yX4_init 0 := ⟨⟨by decide +kernel, by decide +kernel⟩, by decide +kernel⟩
theorem yd_yX2_init : Yd yX2_init 0 := ⟨⟨by decide +kernel, by decide +kernel⟩, by decide +kernel⟩
theorem yd_yX3_init : Yd yX3_init 1 := ⟨⟨by decide +kernel, by decide +kernel⟩, by decide +kernel⟩
theorem yd_yX1_init : Yd yX1_init 0 := ⟨⟨by decide +kernel, by decide +kernel⟩, by decide +kernel⟩
theorem yd_yX4_type : Yd yX4_type 2 := ⟨⟨by decide +kernel, by decide +kernel⟩, by decide +kernel⟩
theorem yd_yX4_isWithin : Yd yX4_isWithin 3 := ⟨⟨by decide +kernel, by decide +kernel⟩, by decide +kernel⟩
theorem yd_yX3_size : Yd yX3_size 0 := ⟨⟨by decide +kernel, by decide +kernel⟩, by decide +kernel⟩
theorem yd_yX3_add : Yd yX3_add 1 := ⟨⟨by decide +kernel, by decide +kernel⟩, by decide +kernel⟩
theorem yd_yX4_clear : Yd yX4_clear 0 := ⟨⟨by decide +kernel, by decide +kernel⟩, by decide +kernel⟩
theorem yd_yX3_cutTo : Yd yX3_cutTo 1 := ⟨⟨by decide +kernel, by decide +kernel⟩, by decide +kernel⟩
theorem yd_yX4_gate : Yd yX4_gate 0 := ⟨⟨by decide +kernel, by decide +kernel⟩, by decide +kernel⟩
theorem yd_yX2_readsAll : Yd yX2_readsAll 0 := ⟨⟨by decide +kernel, by decide +kernel⟩, by decide +kernel⟩
theorem yd_yX2_beginAnew : Yd yX2_beginAnew 0 := ⟨⟨by decide +kernel, by decide +kernel⟩, by decide +kernel⟩
theorem yd_yX2_readToken : Yd yX2_readToken 0 := ⟨⟨by decide +kernel, by decide +kernel⟩, by decide +kernel⟩
theorem yd_yX3_at : Yd yX3_at 1 := ⟨⟨by decide +kernel, by decide +kernel⟩, by decide +kernel⟩
theorem yd_yX2_isDigit : Yd yX2_isDigit 1 := ⟨⟨by decide +kernel, by decide +kernel⟩, by decide +kernel⟩
theorem yd_yX2_readDigits : Yd yX2_readDigits 0 := ⟨⟨by decide +kernel, by decide +kernel⟩, by decide +kernel⟩
theorem yd_yX2_isLetter : Yd yX2_isLetter 1 := ⟨⟨by decide +kernel, by decide +kernel⟩, by decide +kernel⟩
theorem yd_yX2_readLetters : Yd yX2_readLetters 0 := ⟨⟨by decide +kernel, by decide +kernel⟩, by decide +kernel⟩
theorem yd_yX2_isWord : Yd yX2_isWord 1 := ⟨⟨by decide +kernel, by decide +kernel⟩, by decide +kernel⟩
theorem yd_yJ0_length_8abf5 : Yd yJ0_length_8abf5 0 := ⟨⟨by decide +kernel, by decide +kernel⟩, by decide +kernel⟩
theorem yd_yJ0_coder_7d493 : Yd yJ0_coder_7d493 0 := ⟨⟨by decide +kernel, by decide +kernel⟩, by decide +kernel⟩
theorem yd_yJ0_charAt_5068e : Yd yJ0_charAt_5068e 1 := ⟨⟨by decide +kernel, by decide +kernel⟩, by decide +kernel⟩
theorem yd_yJ0_isLatin1_aae02 : Yd yJ0_isLatin1_aae02 0 := ⟨⟨by decide +kernel, by decide +kernel⟩, by decide +kernel⟩
theorem yd_yJ1_charAt_3b067 : Yd yJ1_charAt_3b067 2 := ⟨⟨by decide +kernel, by decide +kernel⟩, by decide +kernel⟩
theorem yd_yJ0_checkIndex_df160 : Yd yJ0_checkIndex_df160 2 := ⟨⟨by decide +kernel, by decide +kernel⟩, by decide +kernel⟩
theorem yd_yJ3_checkIndex_8e157 : Yd yJ3_checkIndex_8e157 3 := ⟨⟨by decide +kernel, by decide +kernel⟩, by decide +kernel⟩
theorem yd_yJ2_charAt_3b067 : Yd yJ2_charAt_3b067 2 := ⟨⟨by decide +kernel, by decide +kernel⟩, by decide +kernel⟩
theorem yd_yJ2_checkIndex_2214a : Yd yJ2_checkIndex_2214a 2 := ⟨⟨by decide +kernel, by decide +kernel⟩, by decide +kernel⟩
theorem yd_yJ2_length_9d52b : Yd yJ2_length_9d52b 1 := ⟨⟨by decide +kernel, by decide +kernel⟩, by decide +kernel⟩
theorem yd_yJ2_getChar_3b067 : Yd yJ2_getChar_3b067 2 := ⟨⟨by decide +kernel, by decide +kernel⟩, by decide +kernel⟩
theorem yd_yX2_readsLoad : Yd yX2_readsLoad 0 := ⟨⟨by decide +kernel, by decide +kernel⟩, by decide +kernel⟩
theorem yd_yX2_readsNumber : Yd yX2_readsNumber 2 := ⟨⟨by decide +kernel, by decide +kernel⟩, by decide +kernel⟩
theorem yd_yX2_readsEndOfItem : Yd yX2_readsEndOfItem 0 := ⟨⟨by decide +kernel, by decide +kernel⟩, by decide +kernel⟩
theorem yd_yX2_readsTaster : Yd yX2_readsTaster 0 := ⟨⟨by decide +kernel, by decide +kernel⟩, by decide +kernel⟩
theorem yd_yX0_least : Yd yX0_least 1 := ⟨⟨by decide +kernel, by decide +kernel⟩, by decide +kernel⟩
theorem yd_yX0_most : Yd yX0_most 1 := ⟨⟨by decide +kernel, by decide +kernel⟩, by decide +kernel⟩
theorem yd_yX0_numbered : Yd yX0_numbered 4 := ⟨⟨by decide +kernel, by decide +kernel⟩, by decide +kernel⟩
theorem yd_yX2_readsHeat : Yd yX2_readsHeat 0 := ⟨⟨by decide +kernel, by decide +kernel⟩, by decide +kernel⟩
theorem yd_yX2_fault : Yd yX2_fault 0 := ⟨⟨by decide +kernel, by decide +kernel⟩, by decide +kernel⟩
theorem yd_yX3_copyFrom : Yd yX3_copyFrom 1 := ⟨⟨by decide +kernel, by decide +kernel⟩, by decide +kernel⟩
theorem yd_yX1_begin : Yd yX1_begin 2 := ⟨⟨by decide +kernel, by decide +kernel⟩, by decide +kernel⟩
theorem yd_yX4_load : Yd yX4_load 1 := ⟨⟨by decide +kernel, by decide +kernel⟩, by decide +kernel⟩
theorem yd_yX4_isLoad : Yd yX4_isLoad 1 := ⟨⟨by decide +kernel, by decide +kernel⟩, by decide +kernel⟩
theorem yd_yX3_has : Yd yX3_has 1 := ⟨⟨by decide +kernel, by decide +kernel⟩, by decide +kernel⟩
theorem yd_yX4_taster : Yd yX4_taster 2 := ⟨⟨by decide +kernel, by decide +kernel⟩, by decide +kernel⟩
theorem yd_yX4_isTaster : Yd yX4_isTaster 1 := ⟨⟨by decide +kernel, by decide +kernel⟩, by decide +kernel⟩
theorem yd_yX0_part : Yd yX0_part 2 := ⟨⟨by decide +kernel, by decide +kernel⟩, by decide +kernel⟩
theorem yd_yX4_cups : Yd yX4_cups 3 := ⟨⟨by decide +kernel, by decide +kernel⟩, by decide +kernel⟩
theorem yd_yX4_isWeight : Yd yX4_isWeight 1 := ⟨⟨by decide +kernel, by decide +kernel⟩, by decide +kernel⟩
theorem yd_yX0_drinks : Yd yX0_drinks 4 := ⟨⟨by decide +kernel, by decide +kernel⟩, by decide +kernel⟩
theorem yd_yX4_weighs : Yd yX4_weighs 2 := ⟨⟨by decide +kernel, by decide +kernel⟩, by decide +kernel⟩
theorem yd_yX4_facts : Yd yX4_facts 0 := ⟨⟨by decide +kernel, by decide +kernel⟩, by decide +kernel⟩
theorem yd_yX4_thirst : Yd yX4_thirst 2 := ⟨⟨by decide +kernel, by decide +kernel⟩, by decide +kernel⟩
theorem yd_yX4_addFact : Yd yX4_addFact 4 := ⟨⟨by decide +kernel, by decide +kernel⟩, by decide +kernel⟩
theorem yd_yX4_addLick : Yd yX4_addLick 1 := ⟨⟨by decide +kernel, by decide +kernel⟩, by decide +kernel⟩
theorem yd_yX3_put : Yd yX3_put 2 := ⟨⟨by decide +kernel, by decide +kernel⟩, by decide +kernel⟩
theorem yd_yX4_says : Yd yX4_says 3 := ⟨⟨by decide +kernel, by decide +kernel⟩, by decide +kernel⟩
theorem yd_yX4_jug : Yd yX4_jug 5 := ⟨⟨by decide +kernel, by decide +kernel⟩, by decide +kernel⟩
theorem yd_yX4_night : Yd yX4_night 0 := ⟨⟨by decide +kernel, by decide +kernel⟩, by decide +kernel⟩
theorem yd_yX4_heat : Yd yX4_heat 1 := ⟨⟨by decide +kernel, by decide +kernel⟩, by decide +kernel⟩
theorem yd_yX4_undo : Yd yX4_undo 0 := ⟨⟨by decide +kernel, by decide +kernel⟩, by decide +kernel⟩
theorem yd_yX4_fact : Yd yX4_fact 2 := ⟨⟨by decide +kernel, by decide +kernel⟩, by decide +kernel⟩
theorem yd_yX4_known : Yd yX4_known 2 := ⟨⟨by decide +kernel, by decide +kernel⟩, by decide +kernel⟩
theorem yd_yX4_canBe : Yd yX4_canBe 2 := ⟨⟨by decide +kernel, by decide +kernel⟩, by decide +kernel⟩
theorem yd_yX4_greatestOf : Yd yX4_greatestOf 1 := ⟨⟨by decide +kernel, by decide +kernel⟩, by decide +kernel⟩
theorem yd_yX4_canWeigh : Yd yX4_canWeigh 2 := ⟨⟨by decide +kernel, by decide +kernel⟩, by decide +kernel⟩
theorem yd_yX4_drinksIn : Yd yX4_drinksIn 2 := ⟨⟨by decide +kernel, by decide +kernel⟩, by decide +kernel⟩
theorem yd_yX4_leastOf : Yd yX4_leastOf 1 := ⟨⟨by decide +kernel, by decide +kernel⟩, by decide +kernel⟩
theorem yd_yX4_next : Yd yX4_next 2 := ⟨⟨by decide +kernel, by decide +kernel⟩, by decide +kernel⟩
theorem yd_yX4_leftAtWorst : Yd yX4_leftAtWorst 3 := ⟨⟨by decide +kernel, by decide +kernel⟩, by decide +kernel⟩
theorem yd_yX4_endOfSpan : Yd yX4_endOfSpan 4 := ⟨⟨by decide +kernel, by decide +kernel⟩, by decide +kernel⟩
theorem yd_yX4_enough : Yd yX4_enough 2 := ⟨⟨by decide +kernel, by decide +kernel⟩, by decide +kernel⟩
theorem yd_yX4_isEnough : Yd yX4_isEnough 5 := ⟨⟨by decide +kernel, by decide +kernel⟩, by decide +kernel⟩
theorem yd_yX4_isEnoughBy : Yd yX4_isEnoughBy 6 := ⟨⟨by decide +kernel, by decide +kernel⟩, by decide +kernel⟩
theorem yd_yX4_plannedLicks : Yd yX4_plannedLicks 2 := ⟨⟨by decide +kernel, by decide +kernel⟩, by decide +kernel⟩
theorem yd_yX4_planWith : Yd yX4_planWith 2 := ⟨⟨by decide +kernel, by decide +kernel⟩, by decide +kernel⟩
theorem yd_yX4_heavier : Yd yX4_heavier 2 := ⟨⟨by decide +kernel, by decide +kernel⟩, by decide +kernel⟩
theorem yd_yX4_told : Yd yX4_told 4 := ⟨⟨by decide +kernel, by decide +kernel⟩, by decide +kernel⟩
theorem yd_yX4_isTasting : Yd yX4_isTasting 3 := ⟨⟨by decide +kernel, by decide +kernel⟩, by decide +kernel⟩
theorem yd_yX4_toldTastings : Yd yX4_toldTastings 0 := ⟨⟨by decide +kernel, by decide +kernel⟩, by decide +kernel⟩
theorem yd_yX4_forget : Yd yX4_forget 0 := ⟨⟨by decide +kernel, by decide +kernel⟩, by decide +kernel⟩
theorem yd_yX4_learnt : Yd yX4_learnt 1 := ⟨⟨by decide +kernel, by decide +kernel⟩, by decide +kernel⟩
theorem yd_yX4_isAsTold : Yd yX4_isAsTold 1 := ⟨⟨by decide +kernel, by decide +kernel⟩, by decide +kernel⟩
theorem yd_yX4_may : Yd yX4_may 4 := ⟨⟨by decide +kernel, by decide +kernel⟩, by decide +kernel⟩
theorem yd_yX4_bribed : Yd yX4_bribed 0 := ⟨⟨by decide +kernel, by decide +kernel⟩, by decide +kernel⟩
theorem yd_yX4_memory : Yd yX4_memory 4 := ⟨⟨by decide +kernel, by decide +kernel⟩, by decide +kernel⟩
theorem yd_yX4_mark : Yd yX4_mark 2 := ⟨⟨by decide +kernel, by decide +kernel⟩, by decide +kernel⟩
theorem yd_yX4_markOfTaster : Yd yX4_markOfTaster 1 := ⟨⟨by decide +kernel, by decide +kernel⟩, by decide +kernel⟩
theorem yd_yX4_markOfCamel : Yd yX4_markOfCamel 1 := ⟨⟨by decide +kernel, by decide +kernel⟩, by decide +kernel⟩
theorem yd_yX4_markOfChild : Yd yX4_markOfChild 1 := ⟨⟨by decide +kernel, by decide +kernel⟩, by decide +kernel⟩
theorem yd_yX4_markOfFeverish : Yd yX4_markOfFeverish 1 := ⟨⟨by decide +kernel, by decide +kernel⟩, by decide +kernel⟩
theorem yd_yX4_markOfInspector : Yd yX4_markOfInspector 1 := ⟨⟨by decide +kernel, by decide +kernel⟩, by decide +kernel⟩
theorem yd_yX4_markOfWell : Yd yX4_markOfWell 1 := ⟨⟨by decide +kernel, by decide +kernel⟩, by decide +kernel⟩
theorem yd_yX4_keep : Yd yX4_keep 1 := ⟨⟨by decide +kernel, by decide +kernel⟩, by decide +kernel⟩
theorem yd_yX4_imageAt : Yd yX4_imageAt 1 := ⟨⟨by decide +kernel, by decide +kernel⟩, by decide +kernel⟩
theorem yd_yX1_copyFrom : Yd yX1_copyFrom 1 := ⟨⟨by decide +kernel, by decide +kernel⟩, by decide +kernel⟩
theorem yd_yX4_back : Yd yX4_back 1 := ⟨⟨by decide +kernel, by decide +kernel⟩, by decide +kernel⟩
theorem yd_yX4_count : Yd yX4_count 1 := ⟨⟨by decide +kernel, by decide +kernel⟩, by decide +kernel⟩
theorem yd_yX4_trace : Yd yX4_trace 0 := ⟨⟨by decide +kernel, by decide +kernel⟩, by decide +kernel⟩
theorem yd_yX5_init : Yd yX5_init 0 := ⟨⟨by decide +kernel, by decide +kernel⟩, by decide +kernel⟩
theorem yd_yX5_type : Yd yX5_type 2 := ⟨⟨by decide +kernel, by decide +kernel⟩, by decide +kernel⟩
theorem yd_yX5_in : Yd yX5_in 3 := ⟨⟨by decide +kernel, by decide +kernel⟩, by decide +kernel⟩
theorem yd_yX5_clear : Yd yX5_clear 0 := ⟨⟨by decide +kernel, by decide +kernel⟩, by decide +kernel⟩
theorem yd_yX5_gate : Yd yX5_gate 0 := ⟨⟨by decide +kernel, by decide +kernel⟩, by decide +kernel⟩
theorem yd_yX5_step : Yd yX5_step 0 := ⟨⟨by decide +kernel, by decide +kernel⟩, by decide +kernel⟩
theorem yd_yX5_here : Yd yX5_here 0 := ⟨⟨by decide +kernel, by decide +kernel⟩, by decide +kernel⟩
theorem yd_yX5_readItem : Yd yX5_readItem 0 := ⟨⟨by decide +kernel, by decide +kernel⟩, by decide +kernel⟩
theorem yd_yX5_due : Yd yX5_due 1 := ⟨⟨by decide +kernel, by decide +kernel⟩, by decide +kernel⟩
theorem yd_yX5_number : Yd yX5_number 2 := ⟨⟨by decide +kernel, by decide +kernel⟩, by decide +kernel⟩
theorem yd_yX5_load : Yd yX5_load 1 := ⟨⟨by decide +kernel, by decide +kernel⟩, by decide +kernel⟩
theorem yd_yX5_isLoad : Yd yX5_isLoad 1 := ⟨⟨by decide +kernel, by decide +kernel⟩, by decide +kernel⟩
theorem yd_yX5_taster : Yd yX5_taster 2 := ⟨⟨by decide +kernel, by decide +kernel⟩, by decide +kernel⟩
theorem yd_yX5_isTaster : Yd yX5_isTaster 1 := ⟨⟨by decide +kernel, by decide +kernel⟩, by decide +kernel⟩
theorem yd_yX5_cups : Yd yX5_cups 3 := ⟨⟨by decide +kernel, by decide +kernel⟩, by decide +kernel⟩
theorem yd_yX5_cupsOf : Yd yX5_cupsOf 4 := ⟨⟨by decide +kernel, by decide +kernel⟩, by decide +kernel⟩
theorem yd_yX5_byLaw : Yd yX5_byLaw 7 := ⟨⟨by decide +kernel, by decide +kernel⟩, by decide +kernel⟩
theorem yd_yX5_weighs : Yd yX5_weighs 2 := ⟨⟨by decide +kernel, by decide +kernel⟩, by decide +kernel⟩
theorem yd_yX5_know : Yd yX5_know 4 := ⟨⟨by decide +kernel, by decide +kernel⟩, by decide +kernel⟩
theorem yd_yX5_says : Yd yX5_says 3 := ⟨⟨by decide +kernel, by decide +kernel⟩, by decide +kernel⟩
theorem yd_yX5_jug : Yd yX5_jug 5 := ⟨⟨by decide +kernel, by decide +kernel⟩, by decide +kernel⟩
theorem yd_yX5_night : Yd yX5_night 0 := ⟨⟨by decide +kernel, by decide +kernel⟩, by decide +kernel⟩
theorem yd_yX5_heat : Yd yX5_heat 1 := ⟨⟨by decide +kernel, by decide +kernel⟩, by decide +kernel⟩
theorem yd_yX5_undo : Yd yX5_undo 0 := ⟨⟨by decide +kernel, by decide +kernel⟩, by decide +kernel⟩
theorem yd_yX5_known : Yd yX5_known 2 := ⟨⟨by decide +kernel, by decide +kernel⟩, by decide +kernel⟩
theorem yd_yX5_canBe : Yd yX5_canBe 2 := ⟨⟨by decide +kernel, by decide +kernel⟩, by decide +kernel⟩
theorem yd_yX5_canBeOf : Yd yX5_canBeOf 1 := ⟨⟨by decide +kernel, by decide +kernel⟩, by decide +kernel⟩
theorem yd_yX5_manyOf : Yd yX5_manyOf 1 := ⟨⟨by decide +kernel, by decide +kernel⟩, by decide +kernel⟩
theorem yd_yX5_least : Yd yX5_least 1 := ⟨⟨by decide +kernel, by decide +kernel⟩, by decide +kernel⟩
theorem yd_yX5_most : Yd yX5_most 1 := ⟨⟨by decide +kernel, by decide +kernel⟩, by decide +kernel⟩
theorem yd_yX5_next : Yd yX5_next 2 := ⟨⟨by decide +kernel, by decide +kernel⟩, by decide +kernel⟩
theorem yd_yX5_worst : Yd yX5_worst 2 := ⟨⟨by decide +kernel, by decide +kernel⟩, by decide +kernel⟩
theorem yd_yX5_part : Yd yX5_part 2 := ⟨⟨by decide +kernel, by decide +kernel⟩, by decide +kernel⟩
theorem yd_yX5_enough : Yd yX5_enough 2 := ⟨⟨by decide +kernel, by decide +kernel⟩, by decide +kernel⟩
theorem yd_yX5_isEnoughByOne : Yd yX5_isEnoughByOne 2 := ⟨⟨by decide +kernel, by decide +kernel⟩, by decide +kernel⟩
theorem yd_yX5_isEnoughByTwo : Yd yX5_isEnoughByTwo 2 := ⟨⟨by decide +kernel, by decide +kernel⟩, by decide +kernel⟩
theorem yd_yX5_isEnoughByThree : Yd yX5_isEnoughByThree 2 := ⟨⟨by decide +kernel, by decide +kernel⟩, by decide +kernel⟩
theorem yd_yX5_heavier : Yd yX5_heavier 2 := ⟨⟨by decide +kernel, by decide +kernel⟩, by decide +kernel⟩
theorem yd_yX5_told : Yd yX5_told 4 := ⟨⟨by decide +kernel, by decide +kernel⟩, by decide +kernel⟩
theorem yd_yX5_isTasting : Yd yX5_isTasting 3 := ⟨⟨by decide +kernel, by decide +kernel⟩, by decide +kernel⟩
theorem yd_yX5_forget : Yd yX5_forget 0 := ⟨⟨by decide +kernel, by decide +kernel⟩, by decide +kernel⟩
theorem yd_yX5_learnt : Yd yX5_learnt 1 := ⟨⟨by decide +kernel, by decide +kernel⟩, by decide +kernel⟩
theorem yd_yX5_isAsTold : Yd yX5_isAsTold 1 := ⟨⟨by decide +kernel, by decide +kernel⟩, by decide +kernel⟩
theorem yd_yX5_aOf : Yd yX5_aOf 1 := ⟨⟨by decide +kernel, by decide +kernel⟩, by decide +kernel⟩
theorem yd_yX5_bOf : Yd yX5_bOf 1 := ⟨⟨by decide +kernel, by decide +kernel⟩, by decide +kernel⟩
theorem yd_yX5_dOf : Yd yX5_dOf 1 := ⟨⟨by decide +kernel, by decide +kernel⟩, by decide +kernel⟩
theorem yd_yX5_tOf : Yd yX5_tOf 1 := ⟨⟨by decide +kernel, by decide +kernel⟩, by decide +kernel⟩
theorem yd_yX5_may : Yd yX5_may 4 := ⟨⟨by decide +kernel, by decide +kernel⟩, by decide +kernel⟩
theorem yd_yX5_bribed : Yd yX5_bribed 0 := ⟨⟨by decide +kernel, by decide +kernel⟩, by decide +kernel⟩
theorem yd_yX5_memory : Yd yX5_memory 4 := ⟨⟨by decide +kernel, by decide +kernel⟩, by decide +kernel⟩
theorem yd_yX5_mark : Yd yX5_mark 2 := ⟨⟨by decide +kernel, by decide +kernel⟩, by decide +kernel⟩
theorem yd_yX5_keep : Yd yX5_keep 1 := ⟨⟨by decide +kernel, by decide +kernel⟩, by decide +kernel⟩
theorem yd_yX5_copy : Yd yX5_copy 2 := ⟨⟨by decide +kernel, by decide +kernel⟩, by decide +kernel⟩
theorem yd_yX5_back : Yd yX5_back 1 := ⟨⟨by decide +kernel, by decide +kernel⟩, by decide +kernel⟩
theorem yd_yX5_count : Yd yX5_count 1 := ⟨⟨by decide +kernel, by decide +kernel⟩, by decide +kernel⟩
theorem yd_yX5_trace : Yd yX5_trace 0 := ⟨⟨by decide +kernel, by decide +kernel⟩, by decide +kernel⟩
theorem lk_RL_9 : LkI RL 9 yX4_init cX4_init 1 0 := ⟨wt_65, wt_66, wt_52, wt_67, yd_yX4_init, rfl⟩
theorem lk_RX2_11 : LkI RX2 11 yX3_init cX3_init 2 1 := ⟨wt_79, wt_80, wt_54, wt_81, yd_yX3_init, rfl⟩
theorem lk_RX4_18 : LkI RX4 18 yX3_init cX3_init 2 1 := ⟨wt_134, wt_80, wt_54, wt_81, yd_yX3_init, rfl⟩
theorem lk_RX1_11 : LkI RX1 11 yX3_init cX3_init 2 1 := ⟨wt_142, wt_80, wt_54, wt_81, yd_yX3_init, rfl⟩
theorem lk_RL_15 : LkV RL 15 yX4_type cX4_type 5 (Option.some FieldType.int) 2 := ⟨wt_187, wt_188, wt_189, wt_52, wt_190, yd_yX4_type⟩
theorem lk_RX4_55 : LkS RX4 55 yX4_isWithin cX4_isWithin 3 (Option.some FieldType.boolean) 3 := ⟨wt_191, wt_192, wt_52, wt_193, yd_yX4_isWithin⟩
theorem lk_RX4_62 : LkV RX4 62 yX3_size cX3_size 1 (Option.some FieldType.int) 0 := ⟨wt_194, wt_195, wt_196, wt_54, wt_197, yd_yX3_size⟩
theorem lk_RX4_68 : LkV RX4 68 yX3_add cX3_add 2 (Option.none) 1 := ⟨wt_199, wt_200, wt_201, wt_54, wt_202, yd_yX3_add⟩
theorem lk_RL_20 : LkV RL 20 yX4_clear cX4_clear 2 (Option.some FieldType.int) 0 := ⟨wt_203, wt_204, wt_205, wt_52, wt_206, yd_yX4_clear⟩
theorem lk_RX4_71 : LkV RX4 71 yX3_cutTo cX3_cutTo 2 (Option.none) 1 := ⟨wt_207, wt_208, wt_209, wt_54, wt_210, yd_yX3_cutTo⟩
theorem lk_RL_25 : LkV RL 25 yX4_gate cX4_gate 1 (Option.some FieldType.int) 0 := ⟨wt_211, wt_212, wt_213, wt_52, wt_214, yd_yX4_gate⟩
theorem lk_RX4_74 : LkV RX4 74 yX2_readsAll cX2_readsAll 3 (Option.some FieldType.boolean) 0 := ⟨wt_215, wt_216, wt_217, wt_53, wt_218, yd_yX2_readsAll⟩
theorem lk_RX2_54 : LkV RX2 54 yX2_beginAnew cX2_beginAnew 1 (Option.none) 0 := ⟨wt_219, wt_221, wt_0, wt_53, wt_222, yd_yX2_beginAnew⟩
theorem lk_RX2_70 : LkV RX2 70 yX3_cutTo cX3_cutTo 2 (Option.none) 1 := ⟨wt_223, wt_208, wt_209, wt_54, wt_210, yd_yX3_cutTo⟩
theorem lk_RX2_57 : LkV RX2 57 yX2_readToken cX2_readToken 1 (Option.none) 0 := ⟨wt_224, wt_226, wt_1, wt_53, wt_227, yd_yX2_readToken⟩
theorem lk_RX2_73 : LkV RX2 73 yX3_size cX3_size 1 (Option.some FieldType.int) 0 := ⟨wt_228, wt_195, wt_196, wt_54, wt_197, yd_yX3_size⟩
theorem lk_RX2_94 : LkV RX2 94 yX3_at cX3_at 2 (Option.some FieldType.int) 1 := ⟨wt_229, wt_230, wt_231, wt_54, wt_232, yd_yX3_at⟩
theorem lk_RX2_101 : LkS RX2 101 yX2_isDigit cX2_isDigit 1 (Option.some FieldType.boolean) 1 := ⟨wt_233, wt_234, wt_53, wt_235, yd_yX2_isDigit⟩
theorem lk_RX2_105 : LkV RX2 105 yX2_readDigits cX2_readDigits 3 (Option.none) 0 := ⟨wt_236, wt_238, wt_2, wt_53, wt_239, yd_yX2_readDigits⟩
theorem lk_RX2_108 : LkS RX2 108 yX2_isLetter cX2_isLetter 1 (Option.some FieldType.boolean) 1 := ⟨wt_240, wt_241, wt_53, wt_242, yd_yX2_isLetter⟩
theorem lk_RX2_111 : LkV RX2 111 yX2_readLetters cX2_readLetters 1 (Option.none) 0 := ⟨wt_243, wt_245, wt_3, wt_53, wt_246, yd_yX2_readLetters⟩
theorem lk_RX2_116 : LkV RX2 116 yX2_isWord cX2_isWord 3 (Option.some FieldType.boolean) 1 := ⟨wt_248, wt_250, wt_4, wt_53, wt_251, yd_yX2_isWord⟩
theorem lk_RX2_124 : LkV RX2 124 yJ0_length_8abf5 cJ0_length_8abf5 1 (Option.some FieldType.int) 0 := ⟨wt_252, wt_253, wt_254, wt_58, wt_255, yd_yJ0_length_8abf5⟩
theorem lk_RJ0_335 : LkV RJ0 335 yJ0_coder_7d493 cJ0_coder_7d493 1 (Option.some FieldType.byte) 0 := ⟨wt_256, wt_257, wt_258, wt_58, wt_259, yd_yJ0_coder_7d493⟩
theorem lk_RX2_129 : LkV RX2 129 yJ0_charAt_5068e cJ0_charAt_5068e 2 (Option.some FieldType.char) 1 := ⟨wt_262, wt_263, wt_264, wt_58, wt_265, yd_yJ0_charAt_5068e⟩
theorem lk_RJ0_492 : LkV RJ0 492 yJ0_isLatin1_aae02 cJ0_isLatin1_aae02 1 (Option.some FieldType.boolean) 0 := ⟨wt_266, wt_267, wt_268, wt_58, wt_269, yd_yJ0_isLatin1_aae02⟩
theorem lk_RJ0_495 : LkS RJ0 495 yJ1_charAt_3b067 cJ1_charAt_3b067 2 (Option.some FieldType.char) 2 := ⟨wt_270, wt_271, wt_59, wt_272, yd_yJ1_charAt_3b067⟩
theorem lk_RJ1_9 : LkS RJ1 9 yJ0_checkIndex_df160 cJ0_checkIndex_df160 2 (Option.none) 2 := ⟨wt_273, wt_274, wt_58, wt_275, yd_yJ0_checkIndex_df160⟩
theorem lk_RJ0_1059 : LkS RJ0 1059 yJ3_checkIndex_8e157 cJ3_checkIndex_8e157 3 (Option.some FieldType.int) 3 := ⟨wt_278, wt_279, wt_60, wt_280, yd_yJ3_checkIndex_8e157⟩
theorem lk_RJ0_498 : LkS RJ0 498 yJ2_charAt_3b067 cJ2_charAt_3b067 2 (Option.some FieldType.char) 2 := ⟨wt_281, wt_282, wt_61, wt_283, yd_yJ2_charAt_3b067⟩
theorem lk_RJ2_67 : LkS RJ2 67 yJ2_checkIndex_2214a cJ2_checkIndex_2214a 2 (Option.none) 2 := ⟨wt_284, wt_285, wt_61, wt_286, yd_yJ2_checkIndex_2214a⟩
theorem lk_RJ2_48 : LkS RJ2 48 yJ2_length_9d52b cJ2_length_9d52b 1 (Option.some FieldType.int) 1 := ⟨wt_287, wt_288, wt_61, wt_289, yd_yJ2_length_9d52b⟩
theorem lk_RJ2_414 : LkS RJ2 414 yJ0_checkIndex_df160 cJ0_checkIndex_df160 2 (Option.none) 2 := ⟨wt_290, wt_274, wt_58, wt_275, yd_yJ0_checkIndex_df160⟩
theorem lk_RJ2_71 : LkS RJ2 71 yJ2_getChar_3b067 cJ2_getChar_3b067 2 (Option.some FieldType.char) 2 := ⟨wt_291, wt_292, wt_61, wt_293, yd_yJ2_getChar_3b067⟩
theorem lk_RX2_60 : LkV RX2 60 yX2_readsLoad cX2_readsLoad 1 (Option.some FieldType.boolean) 0 := ⟨wt_302, wt_304, wt_5, wt_53, wt_305, yd_yX2_readsLoad⟩
theorem lk_RX2_77 : LkV RX2 77 yX2_readsNumber cX2_readsNumber 3 (Option.some FieldType.boolean) 2 := ⟨wt_306, wt_308, wt_6, wt_53, wt_309, yd_yX2_readsNumber⟩
theorem lk_RX2_81 : LkV RX2 81 yX3_add cX3_add 2 (Option.none) 1 := ⟨wt_310, wt_200, wt_201, wt_54, wt_202, yd_yX3_add⟩
theorem lk_RX2_84 : LkV RX2 84 yX2_readsEndOfItem cX2_readsEndOfItem 1 (Option.some FieldType.boolean) 0 := ⟨wt_311, wt_313, wt_7, wt_53, wt_314, yd_yX2_readsEndOfItem⟩
theorem lk_RX2_64 : LkV RX2 64 yX2_readsTaster cX2_readsTaster 2 (Option.some FieldType.boolean) 0 := ⟨wt_315, wt_317, wt_8, wt_53, wt_318, yd_yX2_readsTaster⟩
theorem lk_RX2_87 : LkS RX2 87 yX0_least cX0_least 1 (Option.some FieldType.int) 1 := ⟨wt_319, wt_320, wt_62, wt_321, yd_yX0_least⟩
theorem lk_RX2_91 : LkS RX2 91 yX0_most cX0_most 1 (Option.some FieldType.int) 1 := ⟨wt_322, wt_323, wt_62, wt_324, yd_yX0_most⟩
theorem lk_RX2_97 : LkS RX2 97 yX0_numbered cX0_numbered 4 (Option.some FieldType.int) 4 := ⟨wt_325, wt_326, wt_62, wt_327, yd_yX0_numbered⟩
theorem lk_RX2_67 : LkV RX2 67 yX2_readsHeat cX2_readsHeat 1 (Option.some FieldType.boolean) 0 := ⟨wt_328, wt_330, wt_9, wt_53, wt_331, yd_yX2_readsHeat⟩
theorem lk_RX4_78 : LkV RX4 78 yX2_fault cX2_fault 1 (Option.some FieldType.int) 0 := ⟨wt_332, wt_333, wt_334, wt_53, wt_335, yd_yX2_fault⟩
theorem lk_RX4_82 : LkV RX4 82 yX3_copyFrom cX3_copyFrom 3 (Option.none) 1 := ⟨wt_336, wt_337, wt_338, wt_54, wt_339, yd_yX3_copyFrom⟩
theorem lk_RX3_23 : LkV RX3 23 yX3_cutTo cX3_cutTo 2 (Option.none) 1 := ⟨wt_340, wt_208, wt_209, wt_54, wt_210, yd_yX3_cutTo⟩
theorem lk_RX3_27 : LkV RX3 27 yX3_size cX3_size 1 (Option.some FieldType.int) 0 := ⟨wt_341, wt_195, wt_196, wt_54, wt_197, yd_yX3_size⟩
theorem lk_RX3_31 : LkV RX3 31 yX3_at cX3_at 2 (Option.some FieldType.int) 1 := ⟨wt_342, wt_230, wt_231, wt_54, wt_232, yd_yX3_at⟩
theorem lk_RX3_35 : LkV RX3 35 yX3_add cX3_add 2 (Option.none) 1 := ⟨wt_343, wt_200, wt_201, wt_54, wt_202, yd_yX3_add⟩
theorem lk_RX4_91 : LkV RX4 91 yX1_begin cX1_begin 4 (Option.none) 2 := ⟨wt_344, wt_345, wt_346, wt_56, wt_347, yd_yX1_begin⟩
theorem lk_RX1_27 : LkV RX1 27 yX3_cutTo cX3_cutTo 2 (Option.none) 1 := ⟨wt_348, wt_208, wt_209, wt_54, wt_210, yd_yX3_cutTo⟩
theorem lk_RX1_30 : LkV RX1 30 yX3_add cX3_add 2 (Option.none) 1 := ⟨wt_349, wt_200, wt_201, wt_54, wt_202, yd_yX3_add⟩
theorem lk_RL_29 : LkV RL 29 yX4_load cX4_load 2 (Option.some FieldType.int) 1 := ⟨wt_351, wt_352, wt_353, wt_52, wt_354, yd_yX4_load⟩
theorem lk_RX4_98 : LkV RX4 98 yX4_isLoad cX4_isLoad 2 (Option.some FieldType.boolean) 1 := ⟨wt_355, wt_357, wt_10, wt_52, wt_358, yd_yX4_isLoad⟩
theorem lk_RX4_210 : LkV RX4 210 yX3_has cX3_has 2 (Option.some FieldType.boolean) 1 := ⟨wt_359, wt_360, wt_361, wt_54, wt_362, yd_yX3_has⟩
theorem lk_RX4_102 : LkV RX4 102 yX3_at cX3_at 2 (Option.some FieldType.int) 1 := ⟨wt_363, wt_230, wt_231, wt_54, wt_232, yd_yX3_at⟩
theorem lk_RL_34 : LkV RL 34 yX4_taster cX4_taster 3 (Option.some FieldType.int) 2 := ⟨wt_364, wt_365, wt_366, wt_52, wt_367, yd_yX4_taster⟩
theorem lk_RX4_106 : LkV RX4 106 yX4_isTaster cX4_isTaster 2 (Option.some FieldType.boolean) 1 := ⟨wt_368, wt_370, wt_11, wt_52, wt_371, yd_yX4_isTaster⟩
theorem lk_RX4_112 : LkS RX4 112 yX0_part cX0_part 2 (Option.some FieldType.int) 2 := ⟨wt_372, wt_373, wt_62, wt_374, yd_yX0_part⟩
theorem lk_RL_39 : LkV RL 39 yX4_cups cX4_cups 4 (Option.some FieldType.int) 3 := ⟨wt_375, wt_376, wt_377, wt_52, wt_378, yd_yX4_cups⟩
theorem lk_RX4_118 : LkS RX4 118 yX4_isWeight cX4_isWeight 1 (Option.some FieldType.boolean) 1 := ⟨wt_379, wt_380, wt_52, wt_381, yd_yX4_isWeight⟩
theorem lk_RX4_122 : LkS RX4 122 yX0_drinks cX0_drinks 6 (Option.some FieldType.int) 4 := ⟨wt_382, wt_383, wt_62, wt_384, yd_yX0_drinks⟩
theorem lk_RX0_9 : LkS RX0 9 yX0_part cX0_part 2 (Option.some FieldType.int) 2 := ⟨wt_385, wt_373, wt_62, wt_374, yd_yX0_part⟩
theorem lk_RL_44 : LkV RL 44 yX4_weighs cX4_weighs 4 (Option.some FieldType.int) 2 := ⟨wt_387, wt_388, wt_389, wt_52, wt_390, yd_yX4_weighs⟩
theorem lk_RX4_126 : LkV RX4 126 yX4_facts cX4_facts 1 (Option.some FieldType.int) 0 := ⟨wt_391, wt_393, wt_12, wt_52, wt_394, yd_yX4_facts⟩
theorem lk_RX4_129 : LkV RX4 129 yX4_thirst cX4_thirst 3 (Option.some FieldType.int) 2 := ⟨wt_395, wt_397, wt_13, wt_52, wt_398, yd_yX4_thirst⟩
theorem lk_RX4_132 : LkV RX4 132 yX4_addFact cX4_addFact 5 (Option.none) 4 := ⟨wt_399, wt_401, wt_14, wt_52, wt_402, yd_yX4_addFact⟩
theorem lk_RX4_136 : LkV RX4 136 yX4_addLick cX4_addLick 2 (Option.none) 1 := ⟨wt_403, wt_405, wt_15, wt_52, wt_406, yd_yX4_addLick⟩
theorem lk_RX4_144 : LkV RX4 144 yX3_put cX3_put 3 (Option.none) 2 := ⟨wt_407, wt_408, wt_409, wt_54, wt_410, yd_yX3_put⟩
theorem lk_RL_48 : LkV RL 48 yX4_says cX4_says 4 (Option.some FieldType.int) 3 := ⟨wt_411, wt_412, wt_413, wt_52, wt_414, yd_yX4_says⟩
theorem lk_RL_52 : LkV RL 52 yX4_jug cX4_jug 8 (Option.some FieldType.int) 5 := ⟨wt_415, wt_416, wt_417, wt_52, wt_418, yd_yX4_jug⟩
theorem lk_RL_57 : LkV RL 57 yX4_night cX4_night 3 (Option.some FieldType.int) 0 := ⟨wt_422, wt_423, wt_424, wt_52, wt_425, yd_yX4_night⟩
theorem lk_RL_61 : LkV RL 61 yX4_heat cX4_heat 3 (Option.some FieldType.int) 1 := ⟨wt_426, wt_427, wt_428, wt_52, wt_429, yd_yX4_heat⟩
theorem lk_RL_65 : LkV RL 65 yX4_undo cX4_undo 3 (Option.some FieldType.int) 0 := ⟨wt_430, wt_431, wt_432, wt_52, wt_433, yd_yX4_undo⟩
theorem lk_RX4_147 : LkV RX4 147 yX4_fact cX4_fact 3 (Option.some FieldType.int) 2 := ⟨wt_434, wt_436, wt_16, wt_52, wt_437, yd_yX4_fact⟩
theorem lk_RL_69 : LkV RL 69 yX4_known cX4_known 3 (Option.some FieldType.int) 2 := ⟨wt_439, wt_440, wt_441, wt_52, wt_442, yd_yX4_known⟩
theorem lk_RL_73 : LkV RL 73 yX4_canBe cX4_canBe 3 (Option.some FieldType.int) 2 := ⟨wt_443, wt_444, wt_445, wt_52, wt_446, yd_yX4_canBe⟩
theorem lk_RX4_155 : LkV RX4 155 yX4_greatestOf cX4_greatestOf 3 (Option.some FieldType.int) 1 := ⟨wt_447, wt_449, wt_17, wt_52, wt_450, yd_yX4_greatestOf⟩
theorem lk_RX4_213 : LkV RX4 213 yX4_canWeigh cX4_canWeigh 5 (Option.some FieldType.boolean) 2 := ⟨wt_451, wt_453, wt_18, wt_52, wt_454, yd_yX4_canWeigh⟩
theorem lk_RX4_178 : LkV RX4 178 yX4_drinksIn cX4_drinksIn 3 (Option.some FieldType.int) 2 := ⟨wt_455, wt_457, wt_19, wt_52, wt_458, yd_yX4_drinksIn⟩
theorem lk_RX4_158 : LkV RX4 158 yX4_leastOf cX4_leastOf 3 (Option.some FieldType.int) 1 := ⟨wt_459, wt_461, wt_20, wt_52, wt_462, yd_yX4_leastOf⟩
theorem lk_RL_77 : LkV RL 77 yX4_next cX4_next 9 (Option.some FieldType.int) 2 := ⟨wt_463, wt_464, wt_465, wt_52, wt_466, yd_yX4_next⟩
theorem lk_RX4_161 : LkV RX4 161 yX4_leftAtWorst cX4_leftAtWorst 8 (Option.some FieldType.int) 3 := ⟨wt_467, wt_469, wt_21, wt_52, wt_470, yd_yX4_leftAtWorst⟩
theorem lk_RX4_217 : LkV RX4 217 yX4_endOfSpan cX4_endOfSpan 7 (Option.some FieldType.int) 4 := ⟨wt_471, wt_473, wt_22, wt_52, wt_474, yd_yX4_endOfSpan⟩
theorem lk_RL_81 : LkV RL 81 yX4_enough cX4_enough 6 (Option.some FieldType.int) 2 := ⟨wt_475, wt_476, wt_477, wt_52, wt_478, yd_yX4_enough⟩
theorem lk_RX4_165 : LkV RX4 165 yX4_isEnough cX4_isEnough 7 (Option.some FieldType.boolean) 5 := ⟨wt_479, wt_481, wt_23, wt_52, wt_482, yd_yX4_isEnough⟩
theorem lk_RX4_220 : LkV RX4 220 yX4_isEnoughBy cX4_isEnoughBy 11 (Option.some FieldType.boolean) 6 := ⟨wt_483, wt_485, wt_24, wt_52, wt_486, yd_yX4_isEnoughBy⟩
theorem lk_RX4_224 : LkS RX4 224 yX4_plannedLicks cX4_plannedLicks 2 (Option.some FieldType.int) 2 := ⟨wt_487, wt_488, wt_52, wt_489, yd_yX4_plannedLicks⟩
theorem lk_RX4_227 : LkS RX4 227 yX4_planWith cX4_planWith 2 (Option.some FieldType.int) 2 := ⟨wt_490, wt_491, wt_52, wt_492, yd_yX4_planWith⟩
theorem lk_RL_85 : LkV RL 85 yX4_heavier cX4_heavier 3 (Option.some FieldType.int) 2 := ⟨wt_493, wt_494, wt_495, wt_52, wt_496, yd_yX4_heavier⟩
theorem lk_RL_89 : LkV RL 89 yX4_told cX4_told 5 (Option.some FieldType.int) 4 := ⟨wt_497, wt_498, wt_499, wt_52, wt_500, yd_yX4_told⟩
theorem lk_RX4_169 : LkS RX4 169 yX4_isTasting cX4_isTasting 3 (Option.some FieldType.boolean) 3 := ⟨wt_501, wt_502, wt_52, wt_503, yd_yX4_isTasting⟩
theorem lk_RX4_172 : LkV RX4 172 yX4_toldTastings cX4_toldTastings 1 (Option.some FieldType.int) 0 := ⟨wt_504, wt_506, wt_25, wt_52, wt_507, yd_yX4_toldTastings⟩
theorem lk_RL_94 : LkV RL 94 yX4_forget cX4_forget 2 (Option.some FieldType.int) 0 := ⟨wt_508, wt_509, wt_510, wt_52, wt_511, yd_yX4_forget⟩
theorem lk_RL_98 : LkV RL 98 yX4_learnt cX4_learnt 4 (Option.some FieldType.int) 1 := ⟨wt_512, wt_513, wt_514, wt_52, wt_515, yd_yX4_learnt⟩
theorem lk_RX4_175 : LkV RX4 175 yX4_isAsTold cX4_isAsTold 4 (Option.some FieldType.boolean) 1 := ⟨wt_516, wt_518, wt_26, wt_52, wt_519, yd_yX4_isAsTold⟩
theorem lk_RL_102 : LkV RL 102 yX4_may cX4_may 9 (Option.some FieldType.int) 4 := ⟨wt_520, wt_521, wt_522, wt_52, wt_523, yd_yX4_may⟩
theorem lk_RL_106 : LkV RL 106 yX4_bribed cX4_bribed 5 (Option.some FieldType.int) 0 := ⟨wt_524, wt_525, wt_526, wt_52, wt_527, yd_yX4_bribed⟩
theorem lk_RL_110 : LkV RL 110 yX4_memory cX4_memory 8 (Option.some FieldType.int) 4 := ⟨wt_528, wt_529, wt_530, wt_52, wt_531, yd_yX4_memory⟩
theorem lk_RL_114 : LkV RL 114 yX4_mark cX4_mark 3 (Option.some FieldType.int) 2 := ⟨wt_535, wt_536, wt_537, wt_52, wt_538, yd_yX4_mark⟩
theorem lk_RX4_185 : LkV RX4 185 yX4_markOfTaster cX4_markOfTaster 2 (Option.some FieldType.int) 1 := ⟨wt_540, wt_542, wt_27, wt_52, wt_543, yd_yX4_markOfTaster⟩
theorem lk_RX4_188 : LkV RX4 188 yX4_markOfCamel cX4_markOfCamel 2 (Option.some FieldType.int) 1 := ⟨wt_544, wt_546, wt_28, wt_52, wt_547, yd_yX4_markOfCamel⟩
theorem lk_RX4_191 : LkV RX4 191 yX4_markOfChild cX4_markOfChild 2 (Option.some FieldType.int) 1 := ⟨wt_549, wt_551, wt_29, wt_52, wt_552, yd_yX4_markOfChild⟩
theorem lk_RX4_194 : LkV RX4 194 yX4_markOfFeverish cX4_markOfFeverish 2 (Option.some FieldType.int) 1 := ⟨wt_554, wt_556, wt_30, wt_52, wt_557, yd_yX4_markOfFeverish⟩
theorem lk_RX4_197 : LkV RX4 197 yX4_markOfInspector cX4_markOfInspector 2 (Option.some FieldType.int) 1 := ⟨wt_559, wt_561, wt_31, wt_52, wt_562, yd_yX4_markOfInspector⟩
theorem lk_RX4_200 : LkV RX4 200 yX4_markOfWell cX4_markOfWell 2 (Option.some FieldType.int) 1 := ⟨wt_564, wt_566, wt_32, wt_52, wt_567, yd_yX4_markOfWell⟩
theorem lk_RL_118 : LkV RL 118 yX4_keep cX4_keep 2 (Option.some FieldType.int) 1 := ⟨wt_569, wt_570, wt_571, wt_52, wt_572, yd_yX4_keep⟩
theorem lk_RX4_203 : LkV RX4 203 yX4_imageAt cX4_imageAt 2 (Option.some (FieldType.object "ThirstScales$Now")) 1 := ⟨wt_573, wt_575, wt_33, wt_52, wt_576, yd_yX4_imageAt⟩
theorem lk_RX4_207 : LkV RX4 207 yX1_copyFrom cX1_copyFrom 2 (Option.none) 1 := ⟨wt_577, wt_578, wt_579, wt_56, wt_580, yd_yX1_copyFrom⟩
theorem lk_RX1_33 : LkV RX1 33 yX3_copyFrom cX3_copyFrom 3 (Option.none) 1 := ⟨wt_581, wt_337, wt_338, wt_54, wt_339, yd_yX3_copyFrom⟩
theorem lk_RL_122 : LkV RL 122 yX4_back cX4_back 2 (Option.some FieldType.int) 1 := ⟨wt_582, wt_583, wt_584, wt_52, wt_585, yd_yX4_back⟩
theorem lk_RL_126 : LkV RL 126 yX4_count cX4_count 2 (Option.some FieldType.int) 1 := ⟨wt_586, wt_587, wt_588, wt_52, wt_589, yd_yX4_count⟩
theorem lk_RL_130 : LkV RL 130 yX4_trace cX4_trace 1 (Option.some FieldType.long) 0 := ⟨wt_590, wt_591, wt_592, wt_52, wt_593, yd_yX4_trace⟩
theorem lk_RL_12 : LkI RL 12 yX5_init cX5_init 1 0 := ⟨wt_596, wt_597, wt_57, wt_598, yd_yX5_init, rfl⟩
theorem lk_RL_19 : LkV RL 19 yX5_type cX5_type 5 (Option.some FieldType.int) 2 := ⟨wt_665, wt_666, wt_667, wt_57, wt_668, yd_yX5_type⟩
theorem lk_RX5_52 : LkS RX5 52 yX5_in cX5_in 3 (Option.some FieldType.boolean) 3 := ⟨wt_669, wt_670, wt_57, wt_671, yd_yX5_in⟩
theorem lk_RL_24 : LkV RL 24 yX5_clear cX5_clear 2 (Option.some FieldType.int) 0 := ⟨wt_673, wt_674, wt_675, wt_57, wt_676, yd_yX5_clear⟩
theorem lk_RL_28 : LkV RL 28 yX5_gate cX5_gate 3 (Option.some FieldType.int) 0 := ⟨wt_677, wt_678, wt_679, wt_57, wt_680, yd_yX5_gate⟩
theorem lk_RX5_80 : LkV RX5 80 yX5_step cX5_step 3 (Option.none) 0 := ⟨wt_681, wt_683, wt_34, wt_57, wt_684, yd_yX5_step⟩
theorem lk_RX5_61 : LkV RX5 61 yX5_here cX5_here 1 (Option.some FieldType.int) 0 := ⟨wt_685, wt_687, wt_35, wt_57, wt_688, yd_yX5_here⟩
theorem lk_RX5_95 : LkV RX5 95 yX5_readItem cX5_readItem 3 (Option.none) 0 := ⟨wt_692, wt_694, wt_36, wt_57, wt_695, yd_yX5_readItem⟩
theorem lk_RX5_83 : LkV RX5 83 yX5_due cX5_due 3 (Option.some FieldType.int) 1 := ⟨wt_696, wt_698, wt_37, wt_57, wt_699, yd_yX5_due⟩
theorem lk_RX5_91 : LkV RX5 91 yX5_number cX5_number 3 (Option.some FieldType.int) 2 := ⟨wt_700, wt_702, wt_38, wt_57, wt_703, yd_yX5_number⟩
theorem lk_RL_33 : LkV RL 33 yX5_load cX5_load 2 (Option.some FieldType.int) 1 := ⟨wt_704, wt_705, wt_706, wt_57, wt_707, yd_yX5_load⟩
theorem lk_RX5_105 : LkV RX5 105 yX5_isLoad cX5_isLoad 2 (Option.some FieldType.boolean) 1 := ⟨wt_708, wt_710, wt_39, wt_57, wt_711, yd_yX5_isLoad⟩
theorem lk_RL_38 : LkV RL 38 yX5_taster cX5_taster 3 (Option.some FieldType.int) 2 := ⟨wt_712, wt_713, wt_714, wt_57, wt_715, yd_yX5_taster⟩
theorem lk_RX5_109 : LkV RX5 109 yX5_isTaster cX5_isTaster 2 (Option.some FieldType.boolean) 1 := ⟨wt_716, wt_718, wt_40, wt_57, wt_719, yd_yX5_isTaster⟩
theorem lk_RL_43 : LkV RL 43 yX5_cups cX5_cups 4 (Option.some FieldType.int) 3 := ⟨wt_720, wt_721, wt_722, wt_57, wt_723, yd_yX5_cups⟩
theorem lk_RX5_112 : LkV RX5 112 yX5_cupsOf cX5_cupsOf 5 (Option.some FieldType.int) 4 := ⟨wt_724, wt_726, wt_41, wt_57, wt_727, yd_yX5_cupsOf⟩
theorem lk_RX5_101 : LkS RX5 101 yX5_byLaw cX5_byLaw 8 (Option.some FieldType.int) 7 := ⟨wt_728, wt_729, wt_57, wt_730, yd_yX5_byLaw⟩
theorem lk_RL_47 : LkV RL 47 yX5_weighs cX5_weighs 4 (Option.some FieldType.int) 2 := ⟨wt_731, wt_732, wt_733, wt_57, wt_734, yd_yX5_weighs⟩
theorem lk_RX5_116 : LkV RX5 116 yX5_know cX5_know 6 (Option.none) 4 := ⟨wt_735, wt_737, wt_42, wt_57, wt_738, yd_yX5_know⟩
theorem lk_RL_51 : LkV RL 51 yX5_says cX5_says 4 (Option.some FieldType.int) 3 := ⟨wt_739, wt_740, wt_741, wt_57, wt_742, yd_yX5_says⟩
theorem lk_RL_56 : LkV RL 56 yX5_jug cX5_jug 8 (Option.some FieldType.int) 5 := ⟨wt_743, wt_744, wt_745, wt_57, wt_746, yd_yX5_jug⟩
theorem lk_RL_60 : LkV RL 60 yX5_night cX5_night 3 (Option.some FieldType.int) 0 := ⟨wt_747, wt_748, wt_749, wt_57, wt_750, yd_yX5_night⟩
theorem lk_RL_64 : LkV RL 64 yX5_heat cX5_heat 3 (Option.some FieldType.int) 1 := ⟨wt_751, wt_752, wt_753, wt_57, wt_754, yd_yX5_heat⟩
theorem lk_RL_68 : LkV RL 68 yX5_undo cX5_undo 3 (Option.some FieldType.int) 0 := ⟨wt_755, wt_756, wt_757, wt_57, wt_758, yd_yX5_undo⟩
theorem lk_RL_72 : LkV RL 72 yX5_known cX5_known 3 (Option.some FieldType.int) 2 := ⟨wt_759, wt_760, wt_761, wt_57, wt_762, yd_yX5_known⟩
theorem lk_RL_76 : LkV RL 76 yX5_canBe cX5_canBe 5 (Option.some FieldType.int) 2 := ⟨wt_763, wt_764, wt_765, wt_57, wt_766, yd_yX5_canBe⟩
theorem lk_RX5_120 : LkV RX5 120 yX5_canBeOf cX5_canBeOf 8 (Option.some FieldType.long) 1 := ⟨wt_767, wt_769, wt_43, wt_57, wt_770, yd_yX5_canBeOf⟩
theorem lk_RX5_124 : LkS RX5 124 yX5_manyOf cX5_manyOf 4 (Option.some FieldType.int) 1 := ⟨wt_771, wt_772, wt_57, wt_773, yd_yX5_manyOf⟩
theorem lk_RX5_128 : LkS RX5 128 yX5_least cX5_least 3 (Option.some FieldType.int) 1 := ⟨wt_774, wt_775, wt_57, wt_776, yd_yX5_least⟩
theorem lk_RX5_131 : LkS RX5 131 yX5_most cX5_most 3 (Option.some FieldType.int) 1 := ⟨wt_777, wt_778, wt_57, wt_779, yd_yX5_most⟩
theorem lk_RL_80 : LkV RL 80 yX5_next cX5_next 9 (Option.some FieldType.int) 2 := ⟨wt_780, wt_781, wt_782, wt_57, wt_783, yd_yX5_next⟩
theorem lk_RX5_140 : LkV RX5 140 yX5_worst cX5_worst 9 (Option.some FieldType.int) 2 := ⟨wt_784, wt_786, wt_44, wt_57, wt_787, yd_yX5_worst⟩
theorem lk_RX5_134 : LkV RX5 134 yX5_part cX5_part 8 (Option.some FieldType.long) 2 := ⟨wt_788, wt_790, wt_45, wt_57, wt_791, yd_yX5_part⟩
theorem lk_RL_84 : LkV RL 84 yX5_enough cX5_enough 5 (Option.some FieldType.int) 2 := ⟨wt_793, wt_794, wt_795, wt_57, wt_796, yd_yX5_enough⟩
theorem lk_RX5_144 : LkV RX5 144 yX5_isEnoughByOne cX5_isEnoughByOne 6 (Option.some FieldType.boolean) 2 := ⟨wt_797, wt_799, wt_46, wt_57, wt_800, yd_yX5_isEnoughByOne⟩
theorem lk_RX5_148 : LkV RX5 148 yX5_isEnoughByTwo cX5_isEnoughByTwo 10 (Option.some FieldType.boolean) 2 := ⟨wt_801, wt_803, wt_47, wt_57, wt_804, yd_yX5_isEnoughByTwo⟩
theorem lk_RX5_151 : LkV RX5 151 yX5_isEnoughByThree cX5_isEnoughByThree 10 (Option.some FieldType.boolean) 2 := ⟨wt_805, wt_807, wt_48, wt_57, wt_808, yd_yX5_isEnoughByThree⟩
theorem lk_RL_88 : LkV RL 88 yX5_heavier cX5_heavier 7 (Option.some FieldType.int) 2 := ⟨wt_809, wt_810, wt_811, wt_57, wt_812, yd_yX5_heavier⟩
theorem lk_RL_93 : LkV RL 93 yX5_told cX5_told 5 (Option.some FieldType.int) 4 := ⟨wt_813, wt_814, wt_815, wt_57, wt_816, yd_yX5_told⟩
theorem lk_RX5_154 : LkS RX5 154 yX5_isTasting cX5_isTasting 3 (Option.some FieldType.boolean) 3 := ⟨wt_817, wt_818, wt_57, wt_819, yd_yX5_isTasting⟩
theorem lk_RL_97 : LkV RL 97 yX5_forget cX5_forget 2 (Option.some FieldType.int) 0 := ⟨wt_820, wt_821, wt_822, wt_57, wt_823, yd_yX5_forget⟩
theorem lk_RL_101 : LkV RL 101 yX5_learnt cX5_learnt 5 (Option.some FieldType.int) 1 := ⟨wt_824, wt_825, wt_826, wt_57, wt_827, yd_yX5_learnt⟩
theorem lk_RX5_170 : LkV RX5 170 yX5_isAsTold cX5_isAsTold 5 (Option.some FieldType.boolean) 1 := ⟨wt_828, wt_830, wt_49, wt_57, wt_831, yd_yX5_isAsTold⟩
theorem lk_RX5_157 : LkS RX5 157 yX5_aOf cX5_aOf 1 (Option.some FieldType.int) 1 := ⟨wt_832, wt_833, wt_57, wt_834, yd_yX5_aOf⟩
theorem lk_RX5_161 : LkS RX5 161 yX5_bOf cX5_bOf 1 (Option.some FieldType.int) 1 := ⟨wt_835, wt_836, wt_57, wt_837, yd_yX5_bOf⟩
theorem lk_RX5_164 : LkS RX5 164 yX5_dOf cX5_dOf 1 (Option.some FieldType.int) 1 := ⟨wt_838, wt_839, wt_57, wt_840, yd_yX5_dOf⟩
theorem lk_RX5_167 : LkS RX5 167 yX5_tOf cX5_tOf 1 (Option.some FieldType.int) 1 := ⟨wt_841, wt_842, wt_57, wt_843, yd_yX5_tOf⟩
theorem lk_RL_105 : LkV RL 105 yX5_may cX5_may 9 (Option.some FieldType.int) 4 := ⟨wt_844, wt_845, wt_846, wt_57, wt_847, yd_yX5_may⟩
theorem lk_RL_109 : LkV RL 109 yX5_bribed cX5_bribed 5 (Option.some FieldType.int) 0 := ⟨wt_848, wt_849, wt_850, wt_57, wt_851, yd_yX5_bribed⟩
theorem lk_RL_113 : LkV RL 113 yX5_memory cX5_memory 9 (Option.some FieldType.int) 4 := ⟨wt_852, wt_853, wt_854, wt_57, wt_855, yd_yX5_memory⟩
theorem lk_RL_117 : LkV RL 117 yX5_mark cX5_mark 3 (Option.some FieldType.int) 2 := ⟨wt_856, wt_857, wt_858, wt_57, wt_859, yd_yX5_mark⟩
theorem lk_RL_121 : LkV RL 121 yX5_keep cX5_keep 2 (Option.some FieldType.int) 1 := ⟨wt_866, wt_867, wt_868, wt_57, wt_869, yd_yX5_keep⟩
theorem lk_RX5_188 : LkV RX5 188 yX5_copy cX5_copy 4 (Option.none) 2 := ⟨wt_870, wt_872, wt_50, wt_57, wt_873, yd_yX5_copy⟩
theorem lk_RL_125 : LkV RL 125 yX5_back cX5_back 2 (Option.some FieldType.int) 1 := ⟨wt_874, wt_875, wt_876, wt_57, wt_877, yd_yX5_back⟩
theorem lk_RL_129 : LkV RL 129 yX5_count cX5_count 2 (Option.some FieldType.int) 1 := ⟨wt_878, wt_879, wt_880, wt_57, wt_881, yd_yX5_count⟩
theorem lk_RL_134 : LkV RL 134 yX5_trace cX5_trace 1 (Option.some FieldType.long) 0 := ⟨wt_882, wt_883, wt_884, wt_57, wt_885, yd_yX5_trace⟩
