theorem tm_1 : ∀ w ∈ tables_1_1, w ∈ lw_tbl := fun _ h => List.mem_append_right _ (List.mem_append_left _ h)
theorem tm_2 : ∀ w ∈ tables_1_2, w ∈ lw_tbl := fun _ h => List.mem_append_right _ (List.mem_append_right _ (List.mem_append_left _ h))
theorem tm_3 : ∀ w ∈ tables_1_3, w ∈ lw_tbl := fun _ h => List.mem_append_right _ (List.mem_append_right _ (List.mem_append_right _ h))
theorem tm_0 : ∀ w ∈ k2_sels lw_privs, w ∈ lw_tbl := fun _ h => List.mem_append_left _ h
/-- the words that a callee may be given -/
def lw_g : List Cond := lw_tbl.filter goodWord
theorem tg {w : Cond} (h : w ∈ lw_tbl) (hg : goodWord w = true) : w ∈ lw_g := List.mem_filter.mpr ⟨h, hg⟩
theorem lw_good {w : Cond} (h : w ∈ lw_g) : (w.onTables && w.keeps) = true ∨ ∃ ty, w = .arrayClass ty := good_of_word (List.mem_filter.mp h).2
theorem lw_gt {w : Cond} (h : w ∈ lw_g) : w ∈ lw_tbl := (List.mem_filter.mp h).1
theorem tw_0 : Cond.selects RX4 yX4_refuse yX4_refuse ∈ lw_g := tg (tm_0 _ (List.mem_of_getElem? (i := 0) (by decide +kernel))) rfl
theorem tw_1 : Cond.selects RX0 yX0_hiddenOf yX0_hiddenOf ∈ lw_g := tg (tm_0 _ (List.mem_of_getElem? (i := 1) (by decide +kernel))) rfl
theorem tw_2 : Cond.selects RX2 yX2_forgetOldest yX2_forgetOldest ∈ lw_g := tg (tm_0 _ (List.mem_of_getElem? (i := 2) (by decide +kernel))) rfl
theorem tw_3 : Cond.selects RX2 yX2_at yX2_at ∈ lw_g := tg (tm_0 _ (List.mem_of_getElem? (i := 3) (by decide +kernel))) rfl
theorem tw_4 : Cond.selects RX4 yX4_fromNow yX4_fromNow ∈ lw_g := tg (tm_0 _ (List.mem_of_getElem? (i := 4) (by decide +kernel))) rfl
theorem tw_5 : Cond.selects RX4 yX4_firstToComeIn yX4_firstToComeIn ∈ lw_g := tg (tm_0 _ (List.mem_of_getElem? (i := 5) (by decide +kernel))) rfl
theorem tw_6 : Cond.selects RX4 yX4_isShut yX4_isShut ∈ lw_g := tg (tm_0 _ (List.mem_of_getElem? (i := 6) (by decide +kernel))) rfl
theorem tw_7 : Cond.selects RX4 yX4_isInNextDay yX4_isInNextDay ∈ lw_g := tg (tm_0 _ (List.mem_of_getElem? (i := 7) (by decide +kernel))) rfl
theorem tw_8 : Cond.selects RX4 yX4_isInWithout yX4_isInWithout ∈ lw_g := tg (tm_0 _ (List.mem_of_getElem? (i := 8) (by decide +kernel))) rfl
theorem tw_9 : Cond.selects RX4 yX4_isInUnlacked yX4_isInUnlacked ∈ lw_g := tg (tm_0 _ (List.mem_of_getElem? (i := 9) (by decide +kernel))) rfl
theorem tw_10 : Cond.selects RX3 yX3_faultyLetter yX3_faultyLetter ∈ lw_g := tg (tm_0 _ (List.mem_of_getElem? (i := 10) (by decide +kernel))) rfl
theorem tw_11 : Cond.selects RX3 yX3_faultyLetterFrom yX3_faultyLetterFrom ∈ lw_g := tg (tm_0 _ (List.mem_of_getElem? (i := 11) (by decide +kernel))) rfl
theorem tw_12 : Cond.selects RX3 yX3_digit yX3_digit ∈ lw_g := tg (tm_0 _ (List.mem_of_getElem? (i := 12) (by decide +kernel))) rfl
theorem tw_13 : Cond.selects RX3 yX3_isAsItMustBe yX3_isAsItMustBe ∈ lw_g := tg (tm_0 _ (List.mem_of_getElem? (i := 13) (by decide +kernel))) rfl
theorem tw_14 : Cond.selects RX3 yX3_twoDigits yX3_twoDigits ∈ lw_g := tg (tm_0 _ (List.mem_of_getElem? (i := 14) (by decide +kernel))) rfl
theorem tw_15 : Cond.selects RX3 yX3_carryOut yX3_carryOut ∈ lw_g := tg (tm_0 _ (List.mem_of_getElem? (i := 15) (by decide +kernel))) rfl
theorem tw_16 : Cond.initialized RL ∈ lw_g := tg (tm_1 _ (List.mem_of_getElem? (i := 0) (by decide +kernel))) rfl
theorem tw_17 : Cond.initialized RX4 ∈ lw_g := tg (tm_1 _ (List.mem_of_getElem? (i := 1) (by decide +kernel))) rfl
theorem tw_18 : Cond.initialized RX0 ∈ lw_g := tg (tm_1 _ (List.mem_of_getElem? (i := 2) (by decide +kernel))) rfl
theorem tw_19 : Cond.initialized RX2 ∈ lw_g := tg (tm_1 _ (List.mem_of_getElem? (i := 3) (by decide +kernel))) rfl
theorem tw_20 : Cond.initialized RX3 ∈ lw_g := tg (tm_1 _ (List.mem_of_getElem? (i := 4) (by decide +kernel))) rfl
theorem tw_21 : Cond.initialized RX1 ∈ lw_g := tg (tm_1 _ (List.mem_of_getElem? (i := 5) (by decide +kernel))) rfl
theorem tw_22 : Cond.initialized RJ9 ∈ lw_g := tg (tm_1 _ (List.mem_of_getElem? (i := 6) (by decide +kernel))) rfl
theorem tw_23 : Cond.initialized RJ6 ∈ lw_g := tg (tm_1 _ (List.mem_of_getElem? (i := 7) (by decide +kernel))) rfl
theorem tw_24 : Cond.classLink RL 9 RX4 ∈ lw_g := tg (tm_1 _ (List.mem_of_getElem? (i := 8) (by decide +kernel))) rfl
theorem tw_25 : Cond.instantiable RX4 8 ∈ lw_g := tg (tm_1 _ (List.mem_of_getElem? (i := 9) (by decide +kernel))) rfl
theorem tw_26 : Cond.methodLink RL 49 yX4_init ∈ lw_g := tg (tm_1 _ (List.mem_of_getElem? (i := 10) (by decide +kernel))) rfl
theorem tw_27 : Cond.instanceMethod yX4_init ∈ lw_g := tg (tm_1 _ (List.mem_of_getElem? (i := 11) (by decide +kernel))) rfl
theorem tw_28 : Cond.code yX4_init cX4_init 1 (none) ∈ lw_g := tg (tm_1 _ (List.mem_of_getElem? (i := 12) (by decide +kernel))) rfl
theorem tw_29 : Cond.methodLink RX4 1 objectInit ∈ lw_g := tg (tm_1 _ (List.mem_of_getElem? (i := 13) (by decide +kernel))) rfl
theorem tw_30 : Cond.instanceMethod objectInit ∈ lw_g := tg (tm_1 _ (List.mem_of_getElem? (i := 14) (by decide +kernel))) rfl
theorem tw_31 : Cond.code objectInit ⟨#[0xb1]⟩ 1 (none) ∈ lw_g := tg (tm_1 _ (List.mem_of_getElem? (i := 15) (by decide +kernel))) rfl
theorem tw_32 : Cond.classLink RX4 7 RX0 ∈ lw_g := tg (tm_1 _ (List.mem_of_getElem? (i := 16) (by decide +kernel))) rfl
theorem tw_33 : Cond.instantiable RX0 11 ∈ lw_g := tg (tm_1 _ (List.mem_of_getElem? (i := 17) (by decide +kernel))) rfl
theorem tw_34 : Cond.methodLink RX4 9 yX0_init ∈ lw_g := tg (tm_1 _ (List.mem_of_getElem? (i := 18) (by decide +kernel))) rfl
theorem tw_35 : Cond.instanceMethod yX0_init ∈ lw_g := tg (tm_1 _ (List.mem_of_getElem? (i := 19) (by decide +kernel))) rfl
theorem tw_36 : Cond.code yX0_init cX0_init 2 (none) ∈ lw_g := tg (tm_1 _ (List.mem_of_getElem? (i := 20) (by decide +kernel))) rfl
theorem tw_37 : Cond.methodLink RX0 3 objectInit ∈ lw_g := tg (tm_1 _ (List.mem_of_getElem? (i := 21) (by decide +kernel))) rfl
theorem tw_38 : Cond.fieldLink RX0 9 "TakesWhatItLacks$Harbour" "there" "[I" ∈ lw_g := tg (tm_1 _ (List.mem_of_getElem? (i := 22) (by decide +kernel))) rfl
theorem tw_39 : Cond.fieldLink RX4 91 "TakesWhatItLacks$Harbour" "there" "[I" ∈ lw_g := tg (tm_1 _ (List.mem_of_getElem? (i := 23) (by decide +kernel))) rfl
theorem tw_40 : Cond.fieldLink RX3 88 "TakesWhatItLacks$Harbour" "there" "[I" ∈ lw_g := tg (tm_1 _ (List.mem_of_getElem? (i := 24) (by decide +kernel))) rfl
theorem tw_41 : Cond.fieldLink RX0 15 "TakesWhatItLacks$Harbour" "used" "[I" ∈ lw_g := tg (tm_1 _ (List.mem_of_getElem? (i := 25) (by decide +kernel))) rfl
theorem tw_42 : Cond.fieldLink RX4 94 "TakesWhatItLacks$Harbour" "used" "[I" ∈ lw_g := tg (tm_1 _ (List.mem_of_getElem? (i := 26) (by decide +kernel))) rfl
theorem tw_43 : Cond.fieldLink RX3 92 "TakesWhatItLacks$Harbour" "used" "[I" ∈ lw_g := tg (tm_1 _ (List.mem_of_getElem? (i := 27) (by decide +kernel))) rfl
theorem tw_44 : Cond.fieldLink RX0 18 "TakesWhatItLacks$Harbour" "hidden" "[I" ∈ lw_g := tg (tm_1 _ (List.mem_of_getElem? (i := 28) (by decide +kernel))) rfl
theorem tw_45 : Cond.fieldLink RX4 97 "TakesWhatItLacks$Harbour" "hidden" "[I" ∈ lw_g := tg (tm_1 _ (List.mem_of_getElem? (i := 29) (by decide +kernel))) rfl
theorem tw_46 : Cond.fieldLink RX0 21 "TakesWhatItLacks$Harbour" "kind" "[I" ∈ lw_g := tg (tm_1 _ (List.mem_of_getElem? (i := 30) (by decide +kernel))) rfl
theorem tw_47 : Cond.fieldLink RX4 106 "TakesWhatItLacks$Harbour" "kind" "[I" ∈ lw_g := tg (tm_1 _ (List.mem_of_getElem? (i := 31) (by decide +kernel))) rfl
theorem tw_48 : Cond.fieldLink RX0 24 "TakesWhatItLacks$Harbour" "figure" "[I" ∈ lw_g := tg (tm_1 _ (List.mem_of_getElem? (i := 32) (by decide +kernel))) rfl
theorem tw_49 : Cond.fieldLink RX4 109 "TakesWhatItLacks$Harbour" "figure" "[I" ∈ lw_g := tg (tm_1 _ (List.mem_of_getElem? (i := 33) (by decide +kernel))) rfl
theorem tw_50 : Cond.fieldLink RX0 27 "TakesWhatItLacks$Harbour" "cargo" "[I" ∈ lw_g := tg (tm_1 _ (List.mem_of_getElem? (i := 34) (by decide +kernel))) rfl
theorem tw_51 : Cond.fieldLink RX4 112 "TakesWhatItLacks$Harbour" "cargo" "[I" ∈ lw_g := tg (tm_1 _ (List.mem_of_getElem? (i := 35) (by decide +kernel))) rfl
theorem tw_52 : Cond.fieldLink RX0 30 "TakesWhatItLacks$Harbour" "load" "[I" ∈ lw_g := tg (tm_1 _ (List.mem_of_getElem? (i := 36) (by decide +kernel))) rfl
theorem tw_53 : Cond.fieldLink RX4 115 "TakesWhatItLacks$Harbour" "load" "[I" ∈ lw_g := tg (tm_1 _ (List.mem_of_getElem? (i := 37) (by decide +kernel))) rfl
theorem tw_54 : Cond.fieldLink RX0 33 "TakesWhatItLacks$Harbour" "ships" "I" ∈ lw_g := tg (tm_1 _ (List.mem_of_getElem? (i := 38) (by decide +kernel))) rfl
theorem tw_55 : Cond.fieldLink RX3 52 "TakesWhatItLacks$Harbour" "ships" "I" ∈ lw_g := tg (tm_1 _ (List.mem_of_getElem? (i := 39) (by decide +kernel))) rfl
theorem tw_56 : Cond.fieldLink RX4 141 "TakesWhatItLacks$Harbour" "ships" "I" ∈ lw_g := tg (tm_1 _ (List.mem_of_getElem? (i := 40) (by decide +kernel))) rfl
theorem tw_57 : Cond.fieldLink RX0 37 "TakesWhatItLacks$Harbour" "in" "I" ∈ lw_g := tg (tm_1 _ (List.mem_of_getElem? (i := 41) (by decide +kernel))) rfl
theorem tw_58 : Cond.fieldLink RX4 165 "TakesWhatItLacks$Harbour" "in" "I" ∈ lw_g := tg (tm_1 _ (List.mem_of_getElem? (i := 42) (by decide +kernel))) rfl
theorem tw_59 : Cond.fieldLink RX0 40 "TakesWhatItLacks$Harbour" "coughs" "I" ∈ lw_g := tg (tm_1 _ (List.mem_of_getElem? (i := 43) (by decide +kernel))) rfl
theorem tw_60 : Cond.fieldLink RX3 102 "TakesWhatItLacks$Harbour" "coughs" "I" ∈ lw_g := tg (tm_1 _ (List.mem_of_getElem? (i := 44) (by decide +kernel))) rfl
theorem tw_61 : Cond.fieldLink RX4 179 "TakesWhatItLacks$Harbour" "coughs" "I" ∈ lw_g := tg (tm_1 _ (List.mem_of_getElem? (i := 45) (by decide +kernel))) rfl
theorem tw_62 : Cond.fieldLink RX0 43 "TakesWhatItLacks$Harbour" "day" "I" ∈ lw_g := tg (tm_1 _ (List.mem_of_getElem? (i := 46) (by decide +kernel))) rfl
theorem tw_63 : Cond.fieldLink RX4 134 "TakesWhatItLacks$Harbour" "day" "I" ∈ lw_g := tg (tm_1 _ (List.mem_of_getElem? (i := 47) (by decide +kernel))) rfl
theorem tw_64 : Cond.fieldLink RX3 71 "TakesWhatItLacks$Harbour" "day" "I" ∈ lw_g := tg (tm_1 _ (List.mem_of_getElem? (i := 48) (by decide +kernel))) rfl
theorem tw_65 : Cond.laysFinal RX0 "TakesWhatItLacks$Harbour" "there" "[I" ∈ lw_g := tg (tm_1 _ (List.mem_of_getElem? (i := 49) (by decide +kernel))) rfl
theorem tw_67 : Cond.laysFinal RX0 "TakesWhatItLacks$Harbour" "used" "[I" ∈ lw_g := tg (tm_1 _ (List.mem_of_getElem? (i := 51) (by decide +kernel))) rfl
theorem tw_69 : Cond.laysFinal RX0 "TakesWhatItLacks$Harbour" "hidden" "[I" ∈ lw_g := tg (tm_1 _ (List.mem_of_getElem? (i := 53) (by decide +kernel))) rfl
theorem tw_71 : Cond.laysFinal RX0 "TakesWhatItLacks$Harbour" "kind" "[I" ∈ lw_g := tg (tm_1 _ (List.mem_of_getElem? (i := 55) (by decide +kernel))) rfl
theorem tw_73 : Cond.laysFinal RX0 "TakesWhatItLacks$Harbour" "figure" "[I" ∈ lw_g := tg (tm_1 _ (List.mem_of_getElem? (i := 57) (by decide +kernel))) rfl
theorem tw_75 : Cond.laysFinal RX0 "TakesWhatItLacks$Harbour" "cargo" "[I" ∈ lw_g := tg (tm_1 _ (List.mem_of_getElem? (i := 59) (by decide +kernel))) rfl
theorem tw_77 : Cond.laysFinal RX0 "TakesWhatItLacks$Harbour" "load" "[I" ∈ lw_g := tg (tm_1 _ (List.mem_of_getElem? (i := 61) (by decide +kernel))) rfl
theorem tw_79 : Cond.lays RX0 "TakesWhatItLacks$Harbour" "ships" "I" ∈ lw_g := tg (tm_1 _ (List.mem_of_getElem? (i := 63) (by decide +kernel))) rfl
theorem tw_81 : Cond.lays RX0 "TakesWhatItLacks$Harbour" "in" "I" ∈ lw_g := tg (tm_1 _ (List.mem_of_getElem? (i := 65) (by decide +kernel))) rfl
theorem tw_83 : Cond.lays RX0 "TakesWhatItLacks$Harbour" "coughs" "I" ∈ lw_g := tg (tm_1 _ (List.mem_of_getElem? (i := 67) (by decide +kernel))) rfl
theorem tw_85 : Cond.lays RX0 "TakesWhatItLacks$Harbour" "day" "I" ∈ lw_g := tg (tm_1 _ (List.mem_of_getElem? (i := 69) (by decide +kernel))) rfl
theorem tw_88 : (Jvm.Cond.arrayClass Jvm.ClassFile.FieldType.int) ∈ lw_g := tg (tm_1 _ (List.mem_of_getElem? (i := 72) (by decide +kernel))) rfl
theorem tw_89 : Cond.classLink RX4 22 RX2 ∈ lw_g := tg (tm_1 _ (List.mem_of_getElem? (i := 73) (by decide +kernel))) rfl
theorem tw_90 : Cond.instantiable RX2 2 ∈ lw_g := tg (tm_1 _ (List.mem_of_getElem? (i := 74) (by decide +kernel))) rfl
theorem tw_91 : Cond.methodLink RX4 24 yX2_init ∈ lw_g := tg (tm_1 _ (List.mem_of_getElem? (i := 75) (by decide +kernel))) rfl
theorem tw_92 : Cond.instanceMethod yX2_init ∈ lw_g := tg (tm_1 _ (List.mem_of_getElem? (i := 76) (by decide +kernel))) rfl
theorem tw_93 : Cond.code yX2_init cX2_init 2 (none) ∈ lw_g := tg (tm_1 _ (List.mem_of_getElem? (i := 77) (by decide +kernel))) rfl
theorem tw_94 : Cond.methodLink RX2 3 objectInit ∈ lw_g := tg (tm_1 _ (List.mem_of_getElem? (i := 78) (by decide +kernel))) rfl
theorem tw_95 : Cond.classLink RX2 9 RX0 ∈ lw_g := tg (tm_1 _ (List.mem_of_getElem? (i := 79) (by decide +kernel))) rfl
theorem tw_96 : (Jvm.Cond.arrayOver (Jvm.ClassFile.FieldType.object "TakesWhatItLacks$Harbour")) ∈ lw_tbl := tm_1 _ (List.mem_of_getElem? (i := 80) (by decide +kernel))
theorem tw_97 : Cond.methodLink RX2 17 yX0_init ∈ lw_g := tg (tm_1 _ (List.mem_of_getElem? (i := 81) (by decide +kernel))) rfl
theorem tw_98 : Cond.fieldLink RX2 11 "TakesWhatItLacks$Past" "rows" "[LTakesWhatItLacks$Harbour;" ∈ lw_g := tg (tm_1 _ (List.mem_of_getElem? (i := 82) (by decide +kernel))) rfl
theorem tw_99 : Cond.fieldLink RX2 18 "TakesWhatItLacks$Past" "held" "I" ∈ lw_g := tg (tm_1 _ (List.mem_of_getElem? (i := 83) (by decide +kernel))) rfl
theorem tw_100 : Cond.laysFinal RX2 "TakesWhatItLacks$Past" "rows" "[LTakesWhatItLacks$Harbour;" ∈ lw_g := tg (tm_1 _ (List.mem_of_getElem? (i := 84) (by decide +kernel))) rfl
theorem tw_102 : Cond.lays RX2 "TakesWhatItLacks$Past" "held" "I" ∈ lw_g := tg (tm_1 _ (List.mem_of_getElem? (i := 86) (by decide +kernel))) rfl
theorem tw_105 : Cond.classLink RX4 29 RX3 ∈ lw_g := tg (tm_1 _ (List.mem_of_getElem? (i := 89) (by decide +kernel))) rfl
theorem tw_106 : Cond.instantiable RX3 1 ∈ lw_g := tg (tm_1 _ (List.mem_of_getElem? (i := 90) (by decide +kernel))) rfl
theorem tw_107 : (Jvm.Cond.methodLinkNest "TakesWhatItLacks" (31 : Nat) ({ cls := "TakesWhatItLacks$Text", name := "<init>", desc := "()V" } : Jvm.MethodName) "TakesWhatItLacks") ∈ lw_tbl := tm_1 _ (List.mem_of_getElem? (i := 91) (by decide +kernel))
theorem tw_108 : Cond.instanceMethod yX3_init ∈ lw_g := tg (tm_1 _ (List.mem_of_getElem? (i := 92) (by decide +kernel))) rfl
theorem tw_109 : Cond.code yX3_init cX3_init 1 (none) ∈ lw_g := tg (tm_1 _ (List.mem_of_getElem? (i := 93) (by decide +kernel))) rfl
theorem tw_110 : Cond.methodLink RX3 3 objectInit ∈ lw_g := tg (tm_1 _ (List.mem_of_getElem? (i := 94) (by decide +kernel))) rfl
theorem tw_111 : Cond.classLink RX3 9 RX1 ∈ lw_g := tg (tm_1 _ (List.mem_of_getElem? (i := 95) (by decide +kernel))) rfl
theorem tw_112 : Cond.instantiable RX1 2 ∈ lw_g := tg (tm_1 _ (List.mem_of_getElem? (i := 96) (by decide +kernel))) rfl
theorem tw_113 : Cond.methodLink RX3 11 yX1_init ∈ lw_g := tg (tm_1 _ (List.mem_of_getElem? (i := 97) (by decide +kernel))) rfl
theorem tw_114 : Cond.instanceMethod yX1_init ∈ lw_g := tg (tm_1 _ (List.mem_of_getElem? (i := 98) (by decide +kernel))) rfl
theorem tw_115 : Cond.code yX1_init cX1_init 2 (none) ∈ lw_g := tg (tm_1 _ (List.mem_of_getElem? (i := 99) (by decide +kernel))) rfl
theorem tw_116 : Cond.methodLink RX1 1 objectInit ∈ lw_g := tg (tm_1 _ (List.mem_of_getElem? (i := 100) (by decide +kernel))) rfl
theorem tw_117 : Cond.methodLink RX1 7 Lib.Math.max.name ∈ lw_g := tg (tm_1 _ (List.mem_of_getElem? (i := 101) (by decide +kernel))) rfl
theorem tw_118 : Cond.static Lib.Math.max.name ∈ lw_g := tg (tm_1 _ (List.mem_of_getElem? (i := 102) (by decide +kernel))) rfl
theorem tw_119 : Cond.code Lib.Math.max.name Lib.Math.max.code 2 (some .int) ∈ lw_g := tg (tm_1 _ (List.mem_of_getElem? (i := 103) (by decide +kernel))) rfl
theorem tw_120 : Cond.fieldLink RX1 13 "TakesWhatItLacks$Numbers" "cells" "[I" ∈ lw_g := tg (tm_1 _ (List.mem_of_getElem? (i := 104) (by decide +kernel))) rfl
theorem tw_121 : Cond.fieldLink RX1 19 "TakesWhatItLacks$Numbers" "length" "I" ∈ lw_g := tg (tm_1 _ (List.mem_of_getElem? (i := 105) (by decide +kernel))) rfl
theorem tw_122 : Cond.laysFinal RX1 "TakesWhatItLacks$Numbers" "cells" "[I" ∈ lw_g := tg (tm_1 _ (List.mem_of_getElem? (i := 106) (by decide +kernel))) rfl
theorem tw_124 : Cond.lays RX1 "TakesWhatItLacks$Numbers" "length" "I" ∈ lw_g := tg (tm_1 _ (List.mem_of_getElem? (i := 108) (by decide +kernel))) rfl
theorem tw_127 : Cond.fieldLink RX3 14 "TakesWhatItLacks$Text" "letters" "LTakesWhatItLacks$Numbers;" ∈ lw_g := tg (tm_1 _ (List.mem_of_getElem? (i := 111) (by decide +kernel))) rfl
theorem tw_128 : Cond.fieldLink RX4 57 "TakesWhatItLacks$Text" "letters" "LTakesWhatItLacks$Numbers;" ∈ lw_g := tg (tm_1 _ (List.mem_of_getElem? (i := 112) (by decide +kernel))) rfl
theorem tw_129 : Cond.laysFinal RX3 "TakesWhatItLacks$Text" "letters" "LTakesWhatItLacks$Numbers;" ∈ lw_g := tg (tm_1 _ (List.mem_of_getElem? (i := 113) (by decide +kernel))) rfl
theorem tw_132 : Cond.classLink RX4 36 RX1 ∈ lw_g := tg (tm_1 _ (List.mem_of_getElem? (i := 116) (by decide +kernel))) rfl
theorem tw_133 : Cond.methodLink RX4 38 yX1_init ∈ lw_g := tg (tm_1 _ (List.mem_of_getElem? (i := 117) (by decide +kernel))) rfl
theorem tw_134 : Cond.fieldLink RX4 10 "TakesWhatItLacks" "now" "LTakesWhatItLacks$Harbour;" ∈ lw_g := tg (tm_1 _ (List.mem_of_getElem? (i := 118) (by decide +kernel))) rfl
theorem tw_135 : Cond.fieldLink RX4 16 "TakesWhatItLacks" "mind" "LTakesWhatItLacks$Harbour;" ∈ lw_g := tg (tm_1 _ (List.mem_of_getElem? (i := 119) (by decide +kernel))) rfl
theorem tw_136 : Cond.fieldLink RX4 19 "TakesWhatItLacks" "kept" "LTakesWhatItLacks$Harbour;" ∈ lw_g := tg (tm_1 _ (List.mem_of_getElem? (i := 120) (by decide +kernel))) rfl
theorem tw_137 : Cond.fieldLink RX4 25 "TakesWhatItLacks" "past" "LTakesWhatItLacks$Past;" ∈ lw_g := tg (tm_1 _ (List.mem_of_getElem? (i := 121) (by decide +kernel))) rfl
theorem tw_138 : Cond.fieldLink RX4 32 "TakesWhatItLacks" "text" "LTakesWhatItLacks$Text;" ∈ lw_g := tg (tm_1 _ (List.mem_of_getElem? (i := 122) (by decide +kernel))) rfl
theorem tw_139 : Cond.fieldLink RX4 41 "TakesWhatItLacks" "told" "LTakesWhatItLacks$Numbers;" ∈ lw_g := tg (tm_1 _ (List.mem_of_getElem? (i := 123) (by decide +kernel))) rfl
theorem tw_140 : Cond.fieldLink RX4 45 "TakesWhatItLacks" "refusals" "[I" ∈ lw_g := tg (tm_1 _ (List.mem_of_getElem? (i := 124) (by decide +kernel))) rfl
theorem tw_141 : Cond.fieldLink RX4 49 "TakesWhatItLacks" "isKept" "Z" ∈ lw_g := tg (tm_1 _ (List.mem_of_getElem? (i := 125) (by decide +kernel))) rfl
theorem tw_142 : Cond.laysFinal RX4 "TakesWhatItLacks" "now" "LTakesWhatItLacks$Harbour;" ∈ lw_g := tg (tm_1 _ (List.mem_of_getElem? (i := 126) (by decide +kernel))) rfl
theorem tw_144 : Cond.laysFinal RX4 "TakesWhatItLacks" "mind" "LTakesWhatItLacks$Harbour;" ∈ lw_g := tg (tm_1 _ (List.mem_of_getElem? (i := 128) (by decide +kernel))) rfl
theorem tw_146 : Cond.laysFinal RX4 "TakesWhatItLacks" "kept" "LTakesWhatItLacks$Harbour;" ∈ lw_g := tg (tm_1 _ (List.mem_of_getElem? (i := 130) (by decide +kernel))) rfl
theorem tw_148 : Cond.laysFinal RX4 "TakesWhatItLacks" "past" "LTakesWhatItLacks$Past;" ∈ lw_g := tg (tm_1 _ (List.mem_of_getElem? (i := 132) (by decide +kernel))) rfl
theorem tw_150 : Cond.laysFinal RX4 "TakesWhatItLacks" "text" "LTakesWhatItLacks$Text;" ∈ lw_g := tg (tm_1 _ (List.mem_of_getElem? (i := 134) (by decide +kernel))) rfl
theorem tw_152 : Cond.laysFinal RX4 "TakesWhatItLacks" "told" "LTakesWhatItLacks$Numbers;" ∈ lw_g := tg (tm_1 _ (List.mem_of_getElem? (i := 136) (by decide +kernel))) rfl
theorem tw_154 : Cond.laysFinal RX4 "TakesWhatItLacks" "refusals" "[I" ∈ lw_g := tg (tm_1 _ (List.mem_of_getElem? (i := 138) (by decide +kernel))) rfl
theorem tw_156 : Cond.lays RX4 "TakesWhatItLacks" "isKept" "Z" ∈ lw_g := tg (tm_1 _ (List.mem_of_getElem? (i := 140) (by decide +kernel))) rfl
theorem tw_159 : Cond.methodLink RL 32 yX4_good ∈ lw_g := tg (tm_1 _ (List.mem_of_getElem? (i := 143) (by decide +kernel))) rfl
theorem tw_160 : Cond.instanceMethod yX4_good ∈ lw_g := tg (tm_1 _ (List.mem_of_getElem? (i := 144) (by decide +kernel))) rfl
theorem tw_161 : Cond.selects RX4 yX4_good yX4_good ∈ lw_g := tg (tm_1 _ (List.mem_of_getElem? (i := 145) (by decide +kernel))) rfl
theorem tw_162 : Cond.code yX4_good cX4_good 3 (some .int) ∈ lw_g := tg (tm_1 _ (List.mem_of_getElem? (i := 146) (by decide +kernel))) rfl
theorem tw_163 : Cond.methodLink RX4 87 yX4_isGood ∈ lw_g := tg (tm_1 _ (List.mem_of_getElem? (i := 147) (by decide +kernel))) rfl
theorem tw_164 : Cond.static yX4_isGood ∈ lw_g := tg (tm_1 _ (List.mem_of_getElem? (i := 148) (by decide +kernel))) rfl
theorem tw_165 : Cond.code yX4_isGood cX4_isGood 1 (some .boolean) ∈ lw_g := tg (tm_1 _ (List.mem_of_getElem? (i := 149) (by decide +kernel))) rfl
theorem tw_166 : Cond.methodLink RX4 53 yX4_refuse ∈ lw_g := tg (tm_1 _ (List.mem_of_getElem? (i := 150) (by decide +kernel))) rfl
theorem tw_168 : Cond.instanceMethod yX4_refuse ∈ lw_g := tg (tm_1 _ (List.mem_of_getElem? (i := 152) (by decide +kernel))) rfl
theorem tw_169 : Cond.code yX4_refuse cX4_refuse 3 (some .int) ∈ lw_g := tg (tm_1 _ (List.mem_of_getElem? (i := 153) (by decide +kernel))) rfl
theorem tw_170 : Cond.methodLink RX4 100 yX0_lackOf ∈ lw_g := tg (tm_1 _ (List.mem_of_getElem? (i := 154) (by decide +kernel))) rfl
theorem tw_171 : Cond.instanceMethod yX0_lackOf ∈ lw_g := tg (tm_1 _ (List.mem_of_getElem? (i := 155) (by decide +kernel))) rfl
theorem tw_172 : Cond.selects RX0 yX0_lackOf yX0_lackOf ∈ lw_g := tg (tm_1 _ (List.mem_of_getElem? (i := 156) (by decide +kernel))) rfl
theorem tw_173 : Cond.code yX0_lackOf cX0_lackOf 3 (some .int) ∈ lw_g := tg (tm_1 _ (List.mem_of_getElem? (i := 157) (by decide +kernel))) rfl
theorem tw_174 : Cond.methodLink RL 84 yX4_shipOf ∈ lw_g := tg (tm_1 _ (List.mem_of_getElem? (i := 158) (by decide +kernel))) rfl
theorem tw_175 : Cond.instanceMethod yX4_shipOf ∈ lw_g := tg (tm_1 _ (List.mem_of_getElem? (i := 159) (by decide +kernel))) rfl
theorem tw_176 : Cond.selects RX4 yX4_shipOf yX4_shipOf ∈ lw_g := tg (tm_1 _ (List.mem_of_getElem? (i := 160) (by decide +kernel))) rfl
theorem tw_177 : Cond.code yX4_shipOf cX4_shipOf 3 (some .int) ∈ lw_g := tg (tm_1 _ (List.mem_of_getElem? (i := 161) (by decide +kernel))) rfl
theorem tw_178 : Cond.methodLink RX4 103 yX0_isShip ∈ lw_g := tg (tm_1 _ (List.mem_of_getElem? (i := 162) (by decide +kernel))) rfl
theorem tw_179 : Cond.instanceMethod yX0_isShip ∈ lw_g := tg (tm_1 _ (List.mem_of_getElem? (i := 163) (by decide +kernel))) rfl
theorem tw_180 : Cond.selects RX0 yX0_isShip yX0_isShip ∈ lw_g := tg (tm_1 _ (List.mem_of_getElem? (i := 164) (by decide +kernel))) rfl
theorem tw_181 : Cond.code yX0_isShip cX0_isShip 2 (some .boolean) ∈ lw_g := tg (tm_1 _ (List.mem_of_getElem? (i := 165) (by decide +kernel))) rfl
theorem tw_182 : Cond.methodLink RX4 118 yX0_isIn ∈ lw_g := tg (tm_1 _ (List.mem_of_getElem? (i := 166) (by decide +kernel))) rfl
theorem tw_183 : Cond.instanceMethod yX0_isIn ∈ lw_g := tg (tm_1 _ (List.mem_of_getElem? (i := 167) (by decide +kernel))) rfl
theorem tw_184 : Cond.selects RX0 yX0_isIn yX0_isIn ∈ lw_g := tg (tm_1 _ (List.mem_of_getElem? (i := 168) (by decide +kernel))) rfl
theorem tw_185 : Cond.code yX0_isIn cX0_isIn 2 (some .boolean) ∈ lw_g := tg (tm_1 _ (List.mem_of_getElem? (i := 169) (by decide +kernel))) rfl
theorem tw_186 : Cond.methodLink RX4 121 yX0_draws ∈ lw_g := tg (tm_1 _ (List.mem_of_getElem? (i := 170) (by decide +kernel))) rfl
theorem tw_187 : Cond.instanceMethod yX0_draws ∈ lw_g := tg (tm_1 _ (List.mem_of_getElem? (i := 171) (by decide +kernel))) rfl
theorem tw_188 : Cond.selects RX0 yX0_draws yX0_draws ∈ lw_g := tg (tm_1 _ (List.mem_of_getElem? (i := 172) (by decide +kernel))) rfl
theorem tw_189 : Cond.code yX0_draws cX0_draws 2 (some .int) ∈ lw_g := tg (tm_1 _ (List.mem_of_getElem? (i := 173) (by decide +kernel))) rfl
theorem tw_190 : Cond.methodLink RX4 124 yX0_sinks ∈ lw_g := tg (tm_1 _ (List.mem_of_getElem? (i := 174) (by decide +kernel))) rfl
theorem tw_191 : Cond.instanceMethod yX0_sinks ∈ lw_g := tg (tm_1 _ (List.mem_of_getElem? (i := 175) (by decide +kernel))) rfl
theorem tw_192 : Cond.selects RX0 yX0_sinks yX0_sinks ∈ lw_g := tg (tm_1 _ (List.mem_of_getElem? (i := 176) (by decide +kernel))) rfl
theorem tw_193 : Cond.code yX0_sinks cX0_sinks 3 (some .int) ∈ lw_g := tg (tm_1 _ (List.mem_of_getElem? (i := 177) (by decide +kernel))) rfl
theorem tw_194 : Cond.methodLink RX0 54 yX0_notLacked ∈ lw_g := tg (tm_1 _ (List.mem_of_getElem? (i := 178) (by decide +kernel))) rfl
theorem tw_195 : Cond.instanceMethod yX0_notLacked ∈ lw_g := tg (tm_1 _ (List.mem_of_getElem? (i := 179) (by decide +kernel))) rfl
theorem tw_196 : Cond.selects RX0 yX0_notLacked yX0_notLacked ∈ lw_g := tg (tm_1 _ (List.mem_of_getElem? (i := 180) (by decide +kernel))) rfl
theorem tw_197 : Cond.code yX0_notLacked cX0_notLacked 3 (some .int) ∈ lw_g := tg (tm_1 _ (List.mem_of_getElem? (i := 181) (by decide +kernel))) rfl
theorem tw_198 : Cond.methodLink RX0 50 yX0_lackOf ∈ lw_g := tg (tm_1 _ (List.mem_of_getElem? (i := 182) (by decide +kernel))) rfl
theorem tw_199 : Cond.methodLink RX0 58 yX0_behind ∈ lw_g := tg (tm_1 _ (List.mem_of_getElem? (i := 183) (by decide +kernel))) rfl
theorem tw_200 : Cond.static yX0_behind ∈ lw_g := tg (tm_1 _ (List.mem_of_getElem? (i := 184) (by decide +kernel))) rfl
theorem tw_201 : Cond.code yX0_behind cX0_behind 1 (some .int) ∈ lw_g := tg (tm_1 _ (List.mem_of_getElem? (i := 185) (by decide +kernel))) rfl
theorem tw_202 : Cond.methodLink RX0 61 yX0_hiddenOf ∈ lw_g := tg (tm_1 _ (List.mem_of_getElem? (i := 186) (by decide +kernel))) rfl
theorem tw_204 : Cond.instanceMethod yX0_hiddenOf ∈ lw_g := tg (tm_1 _ (List.mem_of_getElem? (i := 188) (by decide +kernel))) rfl
theorem tw_205 : Cond.code yX0_hiddenOf cX0_hiddenOf 2 (some .int) ∈ lw_g := tg (tm_1 _ (List.mem_of_getElem? (i := 189) (by decide +kernel))) rfl
theorem tw_206 : Cond.methodLink RX4 127 yX0_depth ∈ lw_g := tg (tm_1 _ (List.mem_of_getElem? (i := 190) (by decide +kernel))) rfl
theorem tw_207 : Cond.instanceMethod yX0_depth ∈ lw_g := tg (tm_1 _ (List.mem_of_getElem? (i := 191) (by decide +kernel))) rfl
theorem tw_208 : Cond.selects RX0 yX0_depth yX0_depth ∈ lw_g := tg (tm_1 _ (List.mem_of_getElem? (i := 192) (by decide +kernel))) rfl
theorem tw_209 : Cond.code yX0_depth cX0_depth 2 (some .int) ∈ lw_g := tg (tm_1 _ (List.mem_of_getElem? (i := 193) (by decide +kernel))) rfl
theorem tw_210 : (Jvm.Cond.methodLinkNest "TakesWhatItLacks$Harbour" (64 : Nat) ({ cls := "TakesWhatItLacks", name := "tideOf", desc := "(I)I" } : Jvm.MethodName) "TakesWhatItLacks") ∈ lw_tbl := tm_1 _ (List.mem_of_getElem? (i := 194) (by decide +kernel))
theorem tw_211 : Cond.static yX4_tideOf ∈ lw_g := tg (tm_1 _ (List.mem_of_getElem? (i := 195) (by decide +kernel))) rfl
theorem tw_212 : Cond.code yX4_tideOf cX4_tideOf 1 (some .int) ∈ lw_g := tg (tm_1 _ (List.mem_of_getElem? (i := 196) (by decide +kernel))) rfl
theorem tw_213 : Cond.methodLink RX4 275 yJ9_floorMod_7cf53 ∈ lw_g := tg (tm_1 _ (List.mem_of_getElem? (i := 197) (by decide +kernel))) rfl
theorem tw_214 : Cond.static yJ9_floorMod_7cf53 ∈ lw_g := tg (tm_1 _ (List.mem_of_getElem? (i := 198) (by decide +kernel))) rfl
theorem tw_215 : Cond.code yJ9_floorMod_7cf53 cJ9_floorMod_7cf53 3 (some .int) ∈ lw_g := tg (tm_1 _ (List.mem_of_getElem? (i := 199) (by decide +kernel))) rfl
theorem tw_216 : Cond.methodLink RX4 278 Lib.Math.abs.name ∈ lw_g := tg (tm_1 _ (List.mem_of_getElem? (i := 200) (by decide +kernel))) rfl
theorem tw_217 : Cond.static Lib.Math.abs.name ∈ lw_g := tg (tm_1 _ (List.mem_of_getElem? (i := 201) (by decide +kernel))) rfl
theorem tw_218 : Cond.code Lib.Math.abs.name Lib.Math.abs.code 1 (some .int) ∈ lw_g := tg (tm_1 _ (List.mem_of_getElem? (i := 202) (by decide +kernel))) rfl
theorem tw_219 : Cond.methodLink RX0 67 yX0_sinks ∈ lw_g := tg (tm_1 _ (List.mem_of_getElem? (i := 203) (by decide +kernel))) rfl
theorem tw_220 : Cond.methodLink RL 69 yX4_tide ∈ lw_g := tg (tm_1 _ (List.mem_of_getElem? (i := 204) (by decide +kernel))) rfl
theorem tw_221 : Cond.instanceMethod yX4_tide ∈ lw_g := tg (tm_1 _ (List.mem_of_getElem? (i := 205) (by decide +kernel))) rfl
theorem tw_222 : Cond.selects RX4 yX4_tide yX4_tide ∈ lw_g := tg (tm_1 _ (List.mem_of_getElem? (i := 206) (by decide +kernel))) rfl
theorem tw_223 : Cond.code yX4_tide cX4_tide 3 (some .int) ∈ lw_g := tg (tm_1 _ (List.mem_of_getElem? (i := 207) (by decide +kernel))) rfl
theorem tw_224 : Cond.methodLink RX4 130 yX4_misfit ∈ lw_g := tg (tm_1 _ (List.mem_of_getElem? (i := 208) (by decide +kernel))) rfl
theorem tw_225 : Cond.static yX4_misfit ∈ lw_g := tg (tm_1 _ (List.mem_of_getElem? (i := 209) (by decide +kernel))) rfl
theorem tw_226 : Cond.code yX4_misfit cX4_misfit 3 (some .int) ∈ lw_g := tg (tm_1 _ (List.mem_of_getElem? (i := 210) (by decide +kernel))) rfl
theorem tw_227 : Cond.methodLink RX4 138 yX4_tideOf ∈ lw_g := tg (tm_1 _ (List.mem_of_getElem? (i := 211) (by decide +kernel))) rfl
theorem tw_228 : Cond.methodLink RL 35 yX4_hides ∈ lw_g := tg (tm_1 _ (List.mem_of_getElem? (i := 212) (by decide +kernel))) rfl
theorem tw_229 : Cond.instanceMethod yX4_hides ∈ lw_g := tg (tm_1 _ (List.mem_of_getElem? (i := 213) (by decide +kernel))) rfl
theorem tw_230 : Cond.selects RX4 yX4_hides yX4_hides ∈ lw_g := tg (tm_1 _ (List.mem_of_getElem? (i := 214) (by decide +kernel))) rfl
theorem tw_231 : Cond.code yX4_hides cX4_hides 3 (some .int) ∈ lw_g := tg (tm_1 _ (List.mem_of_getElem? (i := 215) (by decide +kernel))) rfl
theorem tw_232 : Cond.methodLink RX4 148 yX0_canHide ∈ lw_g := tg (tm_1 _ (List.mem_of_getElem? (i := 216) (by decide +kernel))) rfl
theorem tw_233 : Cond.instanceMethod yX0_canHide ∈ lw_g := tg (tm_1 _ (List.mem_of_getElem? (i := 217) (by decide +kernel))) rfl
theorem tw_234 : Cond.selects RX0 yX0_canHide yX0_canHide ∈ lw_g := tg (tm_1 _ (List.mem_of_getElem? (i := 218) (by decide +kernel))) rfl
theorem tw_235 : Cond.code yX0_canHide cX0_canHide 3 (some .boolean) ∈ lw_g := tg (tm_1 _ (List.mem_of_getElem? (i := 219) (by decide +kernel))) rfl
theorem tw_236 : Cond.methodLink RX4 152 yX2_keep ∈ lw_g := tg (tm_1 _ (List.mem_of_getElem? (i := 220) (by decide +kernel))) rfl
theorem tw_237 : Cond.instanceMethod yX2_keep ∈ lw_g := tg (tm_1 _ (List.mem_of_getElem? (i := 221) (by decide +kernel))) rfl
theorem tw_238 : Cond.selects RX2 yX2_keep yX2_keep ∈ lw_g := tg (tm_1 _ (List.mem_of_getElem? (i := 222) (by decide +kernel))) rfl
theorem tw_239 : Cond.code yX2_keep cX2_keep 3 (none) ∈ lw_g := tg (tm_1 _ (List.mem_of_getElem? (i := 223) (by decide +kernel))) rfl
theorem tw_240 : Cond.methodLink RX2 22 yX2_forgetOldest ∈ lw_g := tg (tm_1 _ (List.mem_of_getElem? (i := 224) (by decide +kernel))) rfl
theorem tw_242 : Cond.instanceMethod yX2_forgetOldest ∈ lw_g := tg (tm_1 _ (List.mem_of_getElem? (i := 226) (by decide +kernel))) rfl
theorem tw_243 : Cond.code yX2_forgetOldest cX2_forgetOldest 3 (none) ∈ lw_g := tg (tm_1 _ (List.mem_of_getElem? (i := 227) (by decide +kernel))) rfl
theorem tw_244 : Cond.methodLink RX2 25 yX2_at ∈ lw_g := tg (tm_1 _ (List.mem_of_getElem? (i := 228) (by decide +kernel))) rfl
theorem tw_246 : Cond.instanceMethod yX2_at ∈ lw_g := tg (tm_1 _ (List.mem_of_getElem? (i := 230) (by decide +kernel))) rfl
theorem tw_247 : Cond.code yX2_at cX2_at 2 (some (.object "TakesWhatItLacks$Harbour")) ∈ lw_g := tg (tm_1 _ (List.mem_of_getElem? (i := 231) (by decide +kernel))) rfl
theorem tw_248 : Cond.methodLink RX2 29 yX0_copyFrom ∈ lw_g := tg (tm_1 _ (List.mem_of_getElem? (i := 232) (by decide +kernel))) rfl
theorem tw_249 : Cond.instanceMethod yX0_copyFrom ∈ lw_g := tg (tm_1 _ (List.mem_of_getElem? (i := 233) (by decide +kernel))) rfl
theorem tw_250 : Cond.selects RX0 yX0_copyFrom yX0_copyFrom ∈ lw_g := tg (tm_1 _ (List.mem_of_getElem? (i := 234) (by decide +kernel))) rfl
theorem tw_251 : Cond.code yX0_copyFrom cX0_copyFrom 3 (none) ∈ lw_g := tg (tm_1 _ (List.mem_of_getElem? (i := 235) (by decide +kernel))) rfl
theorem tw_252 : Cond.methodLink RX4 155 yX0_hideAway ∈ lw_g := tg (tm_1 _ (List.mem_of_getElem? (i := 236) (by decide +kernel))) rfl
theorem tw_253 : Cond.instanceMethod yX0_hideAway ∈ lw_g := tg (tm_1 _ (List.mem_of_getElem? (i := 237) (by decide +kernel))) rfl
theorem tw_254 : Cond.selects RX0 yX0_hideAway yX0_hideAway ∈ lw_g := tg (tm_1 _ (List.mem_of_getElem? (i := 238) (by decide +kernel))) rfl
theorem tw_255 : Cond.code yX0_hideAway cX0_hideAway 3 (none) ∈ lw_g := tg (tm_1 _ (List.mem_of_getElem? (i := 239) (by decide +kernel))) rfl
theorem tw_256 : Cond.methodLink RL 93 yX4_sends ∈ lw_g := tg (tm_2 _ (List.mem_of_getElem? (i := 0) (by decide +kernel))) rfl
theorem tw_257 : Cond.instanceMethod yX4_sends ∈ lw_g := tg (tm_2 _ (List.mem_of_getElem? (i := 1) (by decide +kernel))) rfl
theorem tw_258 : Cond.selects RX4 yX4_sends yX4_sends ∈ lw_g := tg (tm_2 _ (List.mem_of_getElem? (i := 2) (by decide +kernel))) rfl
theorem tw_259 : Cond.code yX4_sends cX4_sends 5 (some .int) ∈ lw_g := tg (tm_2 _ (List.mem_of_getElem? (i := 3) (by decide +kernel))) rfl
theorem tw_260 : Cond.methodLink RX4 159 yX0_sendOut ∈ lw_g := tg (tm_2 _ (List.mem_of_getElem? (i := 4) (by decide +kernel))) rfl
theorem tw_261 : Cond.instanceMethod yX0_sendOut ∈ lw_g := tg (tm_2 _ (List.mem_of_getElem? (i := 5) (by decide +kernel))) rfl
theorem tw_262 : Cond.selects RX0 yX0_sendOut yX0_sendOut ∈ lw_g := tg (tm_2 _ (List.mem_of_getElem? (i := 6) (by decide +kernel))) rfl
theorem tw_263 : Cond.code yX0_sendOut cX0_sendOut 2 (none) ∈ lw_g := tg (tm_2 _ (List.mem_of_getElem? (i := 7) (by decide +kernel))) rfl
theorem tw_264 : Cond.methodLink RL 42 yX4_days ∈ lw_g := tg (tm_2 _ (List.mem_of_getElem? (i := 8) (by decide +kernel))) rfl
theorem tw_265 : Cond.instanceMethod yX4_days ∈ lw_g := tg (tm_2 _ (List.mem_of_getElem? (i := 9) (by decide +kernel))) rfl
theorem tw_266 : Cond.selects RX4 yX4_days yX4_days ∈ lw_g := tg (tm_2 _ (List.mem_of_getElem? (i := 10) (by decide +kernel))) rfl
theorem tw_267 : Cond.code yX4_days cX4_days 3 (some .int) ∈ lw_g := tg (tm_2 _ (List.mem_of_getElem? (i := 11) (by decide +kernel))) rfl
theorem tw_268 : Cond.methodLink RX4 162 yX0_passDays ∈ lw_g := tg (tm_2 _ (List.mem_of_getElem? (i := 12) (by decide +kernel))) rfl
theorem tw_269 : Cond.instanceMethod yX0_passDays ∈ lw_g := tg (tm_2 _ (List.mem_of_getElem? (i := 13) (by decide +kernel))) rfl
theorem tw_270 : Cond.selects RX0 yX0_passDays yX0_passDays ∈ lw_g := tg (tm_2 _ (List.mem_of_getElem? (i := 14) (by decide +kernel))) rfl
theorem tw_271 : Cond.code yX0_passDays cX0_passDays 3 (none) ∈ lw_g := tg (tm_2 _ (List.mem_of_getElem? (i := 15) (by decide +kernel))) rfl
theorem tw_272 : Cond.methodLink RX0 92 yX0_passDay ∈ lw_g := tg (tm_2 _ (List.mem_of_getElem? (i := 16) (by decide +kernel))) rfl
theorem tw_273 : Cond.instanceMethod yX0_passDay ∈ lw_g := tg (tm_2 _ (List.mem_of_getElem? (i := 17) (by decide +kernel))) rfl
theorem tw_274 : Cond.selects RX0 yX0_passDay yX0_passDay ∈ lw_g := tg (tm_2 _ (List.mem_of_getElem? (i := 18) (by decide +kernel))) rfl
theorem tw_275 : Cond.code yX0_passDay cX0_passDay 4 (none) ∈ lw_g := tg (tm_2 _ (List.mem_of_getElem? (i := 19) (by decide +kernel))) rfl
theorem tw_276 : Cond.methodLink RX0 82 yX0_isIn ∈ lw_g := tg (tm_2 _ (List.mem_of_getElem? (i := 20) (by decide +kernel))) rfl
theorem tw_277 : Cond.methodLink RX0 86 yX0_draws ∈ lw_g := tg (tm_2 _ (List.mem_of_getElem? (i := 21) (by decide +kernel))) rfl
theorem tw_278 : Cond.methodLink RX0 89 yX0_letIn ∈ lw_g := tg (tm_2 _ (List.mem_of_getElem? (i := 22) (by decide +kernel))) rfl
theorem tw_279 : Cond.instanceMethod yX0_letIn ∈ lw_g := tg (tm_2 _ (List.mem_of_getElem? (i := 23) (by decide +kernel))) rfl
theorem tw_280 : Cond.selects RX0 yX0_letIn yX0_letIn ∈ lw_g := tg (tm_2 _ (List.mem_of_getElem? (i := 24) (by decide +kernel))) rfl
theorem tw_281 : Cond.code yX0_letIn cX0_letIn 3 (none) ∈ lw_g := tg (tm_2 _ (List.mem_of_getElem? (i := 25) (by decide +kernel))) rfl
theorem tw_282 : Cond.methodLink RX0 70 yX0_brings ∈ lw_g := tg (tm_2 _ (List.mem_of_getElem? (i := 26) (by decide +kernel))) rfl
theorem tw_283 : Cond.instanceMethod yX0_brings ∈ lw_g := tg (tm_2 _ (List.mem_of_getElem? (i := 27) (by decide +kernel))) rfl
theorem tw_284 : Cond.selects RX0 yX0_brings yX0_brings ∈ lw_g := tg (tm_2 _ (List.mem_of_getElem? (i := 28) (by decide +kernel))) rfl
theorem tw_285 : Cond.code yX0_brings cX0_brings 5 (some .int) ∈ lw_g := tg (tm_2 _ (List.mem_of_getElem? (i := 29) (by decide +kernel))) rfl
theorem tw_286 : Cond.methodLink RX0 74 Lib.Math.min.name ∈ lw_g := tg (tm_2 _ (List.mem_of_getElem? (i := 30) (by decide +kernel))) rfl
theorem tw_287 : Cond.static Lib.Math.min.name ∈ lw_g := tg (tm_2 _ (List.mem_of_getElem? (i := 31) (by decide +kernel))) rfl
theorem tw_288 : Cond.code Lib.Math.min.name Lib.Math.min.code 2 (some .int) ∈ lw_g := tg (tm_2 _ (List.mem_of_getElem? (i := 32) (by decide +kernel))) rfl
theorem tw_289 : Cond.methodLink RX0 79 Lib.Math.max.name ∈ lw_g := tg (tm_2 _ (List.mem_of_getElem? (i := 33) (by decide +kernel))) rfl
theorem tw_290 : Cond.methodLink RX4 168 yJ6_bitCount_0f7a4 ∈ lw_g := tg (tm_2 _ (List.mem_of_getElem? (i := 34) (by decide +kernel))) rfl
theorem tw_291 : Cond.static yJ6_bitCount_0f7a4 ∈ lw_g := tg (tm_2 _ (List.mem_of_getElem? (i := 35) (by decide +kernel))) rfl
theorem tw_292 : Cond.code yJ6_bitCount_0f7a4 cJ6_bitCount_0f7a4 1 (some .int) ∈ lw_g := tg (tm_2 _ (List.mem_of_getElem? (i := 36) (by decide +kernel))) rfl
theorem tw_293 : (Jvm.Cond.constant "java/lang/Integer" (265 : Nat) (1431655765 : Int32)) ∈ lw_g := tg (tm_2 _ (List.mem_of_getElem? (i := 37) (by decide +kernel))) rfl
theorem tw_294 : (Jvm.Cond.constant "java/lang/Integer" (266 : Nat) (858993459 : Int32)) ∈ lw_g := tg (tm_2 _ (List.mem_of_getElem? (i := 38) (by decide +kernel))) rfl
theorem tw_295 : (Jvm.Cond.constant "java/lang/Integer" (267 : Nat) (252645135 : Int32)) ∈ lw_g := tg (tm_2 _ (List.mem_of_getElem? (i := 39) (by decide +kernel))) rfl
theorem tw_296 : Cond.methodLink RL 96 yX4_back ∈ lw_g := tg (tm_2 _ (List.mem_of_getElem? (i := 40) (by decide +kernel))) rfl
theorem tw_297 : Cond.instanceMethod yX4_back ∈ lw_g := tg (tm_2 _ (List.mem_of_getElem? (i := 41) (by decide +kernel))) rfl
theorem tw_298 : Cond.selects RX4 yX4_back yX4_back ∈ lw_g := tg (tm_2 _ (List.mem_of_getElem? (i := 42) (by decide +kernel))) rfl
theorem tw_299 : Cond.code yX4_back cX4_back 1 (some .int) ∈ lw_g := tg (tm_2 _ (List.mem_of_getElem? (i := 43) (by decide +kernel))) rfl
theorem tw_300 : Cond.methodLink RX4 173 yX2_held ∈ lw_g := tg (tm_2 _ (List.mem_of_getElem? (i := 44) (by decide +kernel))) rfl
theorem tw_301 : Cond.instanceMethod yX2_held ∈ lw_g := tg (tm_2 _ (List.mem_of_getElem? (i := 45) (by decide +kernel))) rfl
theorem tw_302 : Cond.selects RX2 yX2_held yX2_held ∈ lw_g := tg (tm_2 _ (List.mem_of_getElem? (i := 46) (by decide +kernel))) rfl
theorem tw_303 : Cond.code yX2_held cX2_held 1 (some .int) ∈ lw_g := tg (tm_2 _ (List.mem_of_getElem? (i := 47) (by decide +kernel))) rfl
theorem tw_304 : Cond.methodLink RX4 176 yX2_takeBack ∈ lw_g := tg (tm_2 _ (List.mem_of_getElem? (i := 48) (by decide +kernel))) rfl
theorem tw_305 : Cond.instanceMethod yX2_takeBack ∈ lw_g := tg (tm_2 _ (List.mem_of_getElem? (i := 49) (by decide +kernel))) rfl
theorem tw_306 : Cond.selects RX2 yX2_takeBack yX2_takeBack ∈ lw_g := tg (tm_2 _ (List.mem_of_getElem? (i := 50) (by decide +kernel))) rfl
theorem tw_307 : Cond.code yX2_takeBack cX2_takeBack 3 (none) ∈ lw_g := tg (tm_2 _ (List.mem_of_getElem? (i := 51) (by decide +kernel))) rfl
theorem tw_308 : Cond.methodLink RL 75 yX4_thereIn ∈ lw_g := tg (tm_2 _ (List.mem_of_getElem? (i := 52) (by decide +kernel))) rfl
theorem tw_309 : Cond.instanceMethod yX4_thereIn ∈ lw_g := tg (tm_2 _ (List.mem_of_getElem? (i := 53) (by decide +kernel))) rfl
theorem tw_310 : Cond.selects RX4 yX4_thereIn yX4_thereIn ∈ lw_g := tg (tm_2 _ (List.mem_of_getElem? (i := 54) (by decide +kernel))) rfl
theorem tw_311 : Cond.code yX4_thereIn cX4_thereIn 5 (some .int) ∈ lw_g := tg (tm_2 _ (List.mem_of_getElem? (i := 55) (by decide +kernel))) rfl
theorem tw_312 : Cond.methodLink RX4 71 yX4_fromNow ∈ lw_g := tg (tm_2 _ (List.mem_of_getElem? (i := 56) (by decide +kernel))) rfl
theorem tw_314 : Cond.instanceMethod yX4_fromNow ∈ lw_g := tg (tm_2 _ (List.mem_of_getElem? (i := 58) (by decide +kernel))) rfl
theorem tw_315 : Cond.code yX4_fromNow cX4_fromNow 1 (some (.object "TakesWhatItLacks$Harbour")) ∈ lw_g := tg (tm_2 _ (List.mem_of_getElem? (i := 59) (by decide +kernel))) rfl
theorem tw_316 : Cond.methodLink RX4 82 yX0_copyFrom ∈ lw_g := tg (tm_2 _ (List.mem_of_getElem? (i := 60) (by decide +kernel))) rfl
theorem tw_317 : Cond.methodLink RL 60 yX4_then ∈ lw_g := tg (tm_2 _ (List.mem_of_getElem? (i := 61) (by decide +kernel))) rfl
theorem tw_318 : Cond.instanceMethod yX4_then ∈ lw_g := tg (tm_2 _ (List.mem_of_getElem? (i := 62) (by decide +kernel))) rfl
theorem tw_319 : Cond.selects RX4 yX4_then yX4_then ∈ lw_g := tg (tm_2 _ (List.mem_of_getElem? (i := 63) (by decide +kernel))) rfl
theorem tw_320 : Cond.code yX4_then cX4_then 5 (some .int) ∈ lw_g := tg (tm_2 _ (List.mem_of_getElem? (i := 64) (by decide +kernel))) rfl
theorem tw_321 : Cond.methodLink RL 81 yX4_comes ∈ lw_g := tg (tm_2 _ (List.mem_of_getElem? (i := 65) (by decide +kernel))) rfl
theorem tw_322 : Cond.instanceMethod yX4_comes ∈ lw_g := tg (tm_2 _ (List.mem_of_getElem? (i := 66) (by decide +kernel))) rfl
theorem tw_323 : Cond.selects RX4 yX4_comes yX4_comes ∈ lw_g := tg (tm_2 _ (List.mem_of_getElem? (i := 67) (by decide +kernel))) rfl
theorem tw_324 : Cond.code yX4_comes cX4_comes 2 (some .int) ∈ lw_g := tg (tm_2 _ (List.mem_of_getElem? (i := 68) (by decide +kernel))) rfl
theorem tw_325 : Cond.methodLink RX4 182 yX4_firstToComeIn ∈ lw_g := tg (tm_2 _ (List.mem_of_getElem? (i := 69) (by decide +kernel))) rfl
theorem tw_327 : Cond.instanceMethod yX4_firstToComeIn ∈ lw_g := tg (tm_2 _ (List.mem_of_getElem? (i := 71) (by decide +kernel))) rfl
theorem tw_328 : Cond.code yX4_firstToComeIn cX4_firstToComeIn 4 (some .int) ∈ lw_g := tg (tm_2 _ (List.mem_of_getElem? (i := 72) (by decide +kernel))) rfl
theorem tw_329 : Cond.methodLink RX4 208 yX0_passDay ∈ lw_g := tg (tm_2 _ (List.mem_of_getElem? (i := 73) (by decide +kernel))) rfl
theorem tw_330 : Cond.methodLink RX4 185 yX0_daysUntilIn ∈ lw_g := tg (tm_2 _ (List.mem_of_getElem? (i := 74) (by decide +kernel))) rfl
theorem tw_331 : Cond.instanceMethod yX0_daysUntilIn ∈ lw_g := tg (tm_2 _ (List.mem_of_getElem? (i := 75) (by decide +kernel))) rfl
theorem tw_332 : Cond.selects RX0 yX0_daysUntilIn yX0_daysUntilIn ∈ lw_g := tg (tm_2 _ (List.mem_of_getElem? (i := 76) (by decide +kernel))) rfl
theorem tw_333 : Cond.code yX0_daysUntilIn cX0_daysUntilIn 4 (some .int) ∈ lw_g := tg (tm_2 _ (List.mem_of_getElem? (i := 77) (by decide +kernel))) rfl
theorem tw_334 : Cond.methodLink RL 63 yX4_shut ∈ lw_g := tg (tm_2 _ (List.mem_of_getElem? (i := 78) (by decide +kernel))) rfl
theorem tw_335 : Cond.instanceMethod yX4_shut ∈ lw_g := tg (tm_2 _ (List.mem_of_getElem? (i := 79) (by decide +kernel))) rfl
theorem tw_336 : Cond.selects RX4 yX4_shut yX4_shut ∈ lw_g := tg (tm_2 _ (List.mem_of_getElem? (i := 80) (by decide +kernel))) rfl
theorem tw_337 : Cond.code yX4_shut cX4_shut 3 (some .int) ∈ lw_g := tg (tm_2 _ (List.mem_of_getElem? (i := 81) (by decide +kernel))) rfl
theorem tw_338 : Cond.methodLink RX4 189 yX4_isShut ∈ lw_g := tg (tm_2 _ (List.mem_of_getElem? (i := 82) (by decide +kernel))) rfl
theorem tw_340 : Cond.instanceMethod yX4_isShut ∈ lw_g := tg (tm_2 _ (List.mem_of_getElem? (i := 84) (by decide +kernel))) rfl
theorem tw_341 : Cond.code yX4_isShut cX4_isShut 2 (some .boolean) ∈ lw_g := tg (tm_2 _ (List.mem_of_getElem? (i := 85) (by decide +kernel))) rfl
theorem tw_342 : Cond.methodLink RX4 192 yX4_isInNextDay ∈ lw_g := tg (tm_2 _ (List.mem_of_getElem? (i := 86) (by decide +kernel))) rfl
theorem tw_344 : Cond.instanceMethod yX4_isInNextDay ∈ lw_g := tg (tm_2 _ (List.mem_of_getElem? (i := 88) (by decide +kernel))) rfl
theorem tw_345 : Cond.code yX4_isInNextDay cX4_isInNextDay 4 (some .boolean) ∈ lw_g := tg (tm_2 _ (List.mem_of_getElem? (i := 89) (by decide +kernel))) rfl
theorem tw_346 : Cond.methodLink RL 99 yX4_byWhom ∈ lw_g := tg (tm_2 _ (List.mem_of_getElem? (i := 90) (by decide +kernel))) rfl
theorem tw_347 : Cond.instanceMethod yX4_byWhom ∈ lw_g := tg (tm_2 _ (List.mem_of_getElem? (i := 91) (by decide +kernel))) rfl
theorem tw_348 : Cond.selects RX4 yX4_byWhom yX4_byWhom ∈ lw_g := tg (tm_2 _ (List.mem_of_getElem? (i := 92) (by decide +kernel))) rfl
theorem tw_349 : Cond.code yX4_byWhom cX4_byWhom 3 (some .int) ∈ lw_g := tg (tm_2 _ (List.mem_of_getElem? (i := 93) (by decide +kernel))) rfl
theorem tw_350 : Cond.methodLink RL 90 yX4_loaded ∈ lw_g := tg (tm_2 _ (List.mem_of_getElem? (i := 94) (by decide +kernel))) rfl
theorem tw_351 : Cond.instanceMethod yX4_loaded ∈ lw_g := tg (tm_2 _ (List.mem_of_getElem? (i := 95) (by decide +kernel))) rfl
theorem tw_352 : Cond.selects RX4 yX4_loaded yX4_loaded ∈ lw_g := tg (tm_2 _ (List.mem_of_getElem? (i := 96) (by decide +kernel))) rfl
theorem tw_353 : Cond.code yX4_loaded cX4_loaded 8 (some .int) ∈ lw_g := tg (tm_2 _ (List.mem_of_getElem? (i := 97) (by decide +kernel))) rfl
theorem tw_354 : Cond.methodLink RL 102 yX4_hide ∈ lw_g := tg (tm_2 _ (List.mem_of_getElem? (i := 98) (by decide +kernel))) rfl
theorem tw_355 : Cond.instanceMethod yX4_hide ∈ lw_g := tg (tm_2 _ (List.mem_of_getElem? (i := 99) (by decide +kernel))) rfl
theorem tw_356 : Cond.selects RX4 yX4_hide yX4_hide ∈ lw_g := tg (tm_2 _ (List.mem_of_getElem? (i := 100) (by decide +kernel))) rfl
theorem tw_357 : Cond.code yX4_hide cX4_hide 7 (some .int) ∈ lw_g := tg (tm_2 _ (List.mem_of_getElem? (i := 101) (by decide +kernel))) rfl
theorem tw_358 : Cond.methodLink RL 106 yX4_fewest ∈ lw_g := tg (tm_2 _ (List.mem_of_getElem? (i := 102) (by decide +kernel))) rfl
theorem tw_359 : Cond.instanceMethod yX4_fewest ∈ lw_g := tg (tm_2 _ (List.mem_of_getElem? (i := 103) (by decide +kernel))) rfl
theorem tw_360 : Cond.selects RX4 yX4_fewest yX4_fewest ∈ lw_g := tg (tm_2 _ (List.mem_of_getElem? (i := 104) (by decide +kernel))) rfl
theorem tw_361 : Cond.code yX4_fewest cX4_fewest 6 (some .int) ∈ lw_g := tg (tm_2 _ (List.mem_of_getElem? (i := 105) (by decide +kernel))) rfl
theorem tw_362 : Cond.methodLink RX4 195 yX4_isInWithout ∈ lw_g := tg (tm_2 _ (List.mem_of_getElem? (i := 106) (by decide +kernel))) rfl
theorem tw_364 : Cond.instanceMethod yX4_isInWithout ∈ lw_g := tg (tm_2 _ (List.mem_of_getElem? (i := 108) (by decide +kernel))) rfl
theorem tw_365 : Cond.code yX4_isInWithout cX4_isInWithout 6 (some .boolean) ∈ lw_g := tg (tm_2 _ (List.mem_of_getElem? (i := 109) (by decide +kernel))) rfl
theorem tw_366 : Cond.methodLink RL 87 yX4_forWhat ∈ lw_g := tg (tm_2 _ (List.mem_of_getElem? (i := 110) (by decide +kernel))) rfl
theorem tw_367 : Cond.instanceMethod yX4_forWhat ∈ lw_g := tg (tm_2 _ (List.mem_of_getElem? (i := 111) (by decide +kernel))) rfl
theorem tw_368 : Cond.selects RX4 yX4_forWhat yX4_forWhat ∈ lw_g := tg (tm_2 _ (List.mem_of_getElem? (i := 112) (by decide +kernel))) rfl
theorem tw_369 : Cond.code yX4_forWhat cX4_forWhat 4 (some .int) ∈ lw_g := tg (tm_2 _ (List.mem_of_getElem? (i := 113) (by decide +kernel))) rfl
theorem tw_370 : Cond.methodLink RX4 199 yX4_isInUnlacked ∈ lw_g := tg (tm_2 _ (List.mem_of_getElem? (i := 114) (by decide +kernel))) rfl
theorem tw_372 : Cond.instanceMethod yX4_isInUnlacked ∈ lw_g := tg (tm_2 _ (List.mem_of_getElem? (i := 116) (by decide +kernel))) rfl
theorem tw_373 : Cond.code yX4_isInUnlacked cX4_isInUnlacked 4 (some .boolean) ∈ lw_g := tg (tm_2 _ (List.mem_of_getElem? (i := 117) (by decide +kernel))) rfl
theorem tw_374 : Cond.methodLink RL 66 yX4_want ∈ lw_g := tg (tm_2 _ (List.mem_of_getElem? (i := 118) (by decide +kernel))) rfl
theorem tw_375 : Cond.instanceMethod yX4_want ∈ lw_g := tg (tm_2 _ (List.mem_of_getElem? (i := 119) (by decide +kernel))) rfl
theorem tw_376 : Cond.selects RX4 yX4_want yX4_want ∈ lw_g := tg (tm_2 _ (List.mem_of_getElem? (i := 120) (by decide +kernel))) rfl
theorem tw_377 : Cond.code yX4_want cX4_want 3 (some .int) ∈ lw_g := tg (tm_2 _ (List.mem_of_getElem? (i := 121) (by decide +kernel))) rfl
theorem tw_378 : Cond.methodLink RX4 202 yX0_wantWithin ∈ lw_g := tg (tm_2 _ (List.mem_of_getElem? (i := 122) (by decide +kernel))) rfl
theorem tw_379 : Cond.instanceMethod yX0_wantWithin ∈ lw_g := tg (tm_2 _ (List.mem_of_getElem? (i := 123) (by decide +kernel))) rfl
theorem tw_380 : Cond.selects RX0 yX0_wantWithin yX0_wantWithin ∈ lw_g := tg (tm_2 _ (List.mem_of_getElem? (i := 124) (by decide +kernel))) rfl
theorem tw_381 : Cond.code yX0_wantWithin cX0_wantWithin 5 (some .int) ∈ lw_g := tg (tm_2 _ (List.mem_of_getElem? (i := 125) (by decide +kernel))) rfl
theorem tw_382 : Cond.methodLink RX0 95 yX0_lackOfAll ∈ lw_g := tg (tm_2 _ (List.mem_of_getElem? (i := 126) (by decide +kernel))) rfl
theorem tw_383 : Cond.instanceMethod yX0_lackOfAll ∈ lw_g := tg (tm_2 _ (List.mem_of_getElem? (i := 127) (by decide +kernel))) rfl
theorem tw_384 : Cond.selects RX0 yX0_lackOfAll yX0_lackOfAll ∈ lw_g := tg (tm_2 _ (List.mem_of_getElem? (i := 128) (by decide +kernel))) rfl
theorem tw_385 : Cond.code yX0_lackOfAll cX0_lackOfAll 3 (some .int) ∈ lw_g := tg (tm_2 _ (List.mem_of_getElem? (i := 129) (by decide +kernel))) rfl
theorem tw_386 : Cond.methodLink RL 117 yX4_bare ∈ lw_g := tg (tm_2 _ (List.mem_of_getElem? (i := 130) (by decide +kernel))) rfl
theorem tw_387 : Cond.instanceMethod yX4_bare ∈ lw_g := tg (tm_2 _ (List.mem_of_getElem? (i := 131) (by decide +kernel))) rfl
theorem tw_388 : Cond.selects RX4 yX4_bare yX4_bare ∈ lw_g := tg (tm_2 _ (List.mem_of_getElem? (i := 132) (by decide +kernel))) rfl
theorem tw_389 : Cond.code yX4_bare cX4_bare 5 (some .int) ∈ lw_g := tg (tm_2 _ (List.mem_of_getElem? (i := 133) (by decide +kernel))) rfl
theorem tw_390 : Cond.methodLink RX4 205 yX0_firstBare ∈ lw_g := tg (tm_2 _ (List.mem_of_getElem? (i := 134) (by decide +kernel))) rfl
theorem tw_391 : Cond.instanceMethod yX0_firstBare ∈ lw_g := tg (tm_2 _ (List.mem_of_getElem? (i := 135) (by decide +kernel))) rfl
theorem tw_392 : Cond.selects RX0 yX0_firstBare yX0_firstBare ∈ lw_g := tg (tm_2 _ (List.mem_of_getElem? (i := 136) (by decide +kernel))) rfl
theorem tw_393 : Cond.code yX0_firstBare cX0_firstBare 2 (some .int) ∈ lw_g := tg (tm_2 _ (List.mem_of_getElem? (i := 137) (by decide +kernel))) rfl
theorem tw_394 : Cond.methodLink RL 72 yX4_deepest ∈ lw_g := tg (tm_2 _ (List.mem_of_getElem? (i := 138) (by decide +kernel))) rfl
theorem tw_395 : Cond.instanceMethod yX4_deepest ∈ lw_g := tg (tm_2 _ (List.mem_of_getElem? (i := 139) (by decide +kernel))) rfl
theorem tw_396 : Cond.selects RX4 yX4_deepest yX4_deepest ∈ lw_g := tg (tm_2 _ (List.mem_of_getElem? (i := 140) (by decide +kernel))) rfl
theorem tw_397 : Cond.code yX4_deepest cX4_deepest 2 (some .int) ∈ lw_g := tg (tm_2 _ (List.mem_of_getElem? (i := 141) (by decide +kernel))) rfl
theorem tw_398 : Cond.methodLink RX4 248 yX0_deepestShip ∈ lw_g := tg (tm_2 _ (List.mem_of_getElem? (i := 142) (by decide +kernel))) rfl
theorem tw_399 : Cond.instanceMethod yX0_deepestShip ∈ lw_g := tg (tm_2 _ (List.mem_of_getElem? (i := 143) (by decide +kernel))) rfl
theorem tw_400 : Cond.selects RX0 yX0_deepestShip yX0_deepestShip ∈ lw_g := tg (tm_2 _ (List.mem_of_getElem? (i := 144) (by decide +kernel))) rfl
theorem tw_401 : Cond.code yX0_deepestShip cX0_deepestShip 4 (some .int) ∈ lw_g := tg (tm_2 _ (List.mem_of_getElem? (i := 145) (by decide +kernel))) rfl
theorem tw_402 : Cond.methodLink RX4 251 yX0_shortestGood ∈ lw_g := tg (tm_2 _ (List.mem_of_getElem? (i := 146) (by decide +kernel))) rfl
theorem tw_403 : Cond.instanceMethod yX0_shortestGood ∈ lw_g := tg (tm_2 _ (List.mem_of_getElem? (i := 147) (by decide +kernel))) rfl
theorem tw_404 : Cond.selects RX0 yX0_shortestGood yX0_shortestGood ∈ lw_g := tg (tm_2 _ (List.mem_of_getElem? (i := 148) (by decide +kernel))) rfl
theorem tw_405 : Cond.code yX0_shortestGood cX0_shortestGood 3 (some .int) ∈ lw_g := tg (tm_2 _ (List.mem_of_getElem? (i := 149) (by decide +kernel))) rfl
theorem tw_406 : Cond.methodLink RX4 254 yX0_plenty ∈ lw_g := tg (tm_2 _ (List.mem_of_getElem? (i := 150) (by decide +kernel))) rfl
theorem tw_407 : Cond.instanceMethod yX0_plenty ∈ lw_g := tg (tm_2 _ (List.mem_of_getElem? (i := 151) (by decide +kernel))) rfl
theorem tw_408 : Cond.selects RX0 yX0_plenty yX0_plenty ∈ lw_g := tg (tm_2 _ (List.mem_of_getElem? (i := 152) (by decide +kernel))) rfl
theorem tw_409 : Cond.code yX0_plenty cX0_plenty 3 (some .int) ∈ lw_g := tg (tm_2 _ (List.mem_of_getElem? (i := 153) (by decide +kernel))) rfl
theorem tw_410 : Cond.methodLink RX4 257 yX0_twins ∈ lw_g := tg (tm_2 _ (List.mem_of_getElem? (i := 154) (by decide +kernel))) rfl
theorem tw_411 : Cond.instanceMethod yX0_twins ∈ lw_g := tg (tm_2 _ (List.mem_of_getElem? (i := 155) (by decide +kernel))) rfl
theorem tw_412 : Cond.selects RX0 yX0_twins yX0_twins ∈ lw_g := tg (tm_2 _ (List.mem_of_getElem? (i := 156) (by decide +kernel))) rfl
theorem tw_413 : Cond.code yX0_twins cX0_twins 4 (some .int) ∈ lw_g := tg (tm_2 _ (List.mem_of_getElem? (i := 157) (by decide +kernel))) rfl
theorem tw_414 : Cond.methodLink RL 120 yX4_filled ∈ lw_g := tg (tm_2 _ (List.mem_of_getElem? (i := 158) (by decide +kernel))) rfl
theorem tw_415 : Cond.instanceMethod yX4_filled ∈ lw_g := tg (tm_2 _ (List.mem_of_getElem? (i := 159) (by decide +kernel))) rfl
theorem tw_416 : Cond.selects RX4 yX4_filled yX4_filled ∈ lw_g := tg (tm_2 _ (List.mem_of_getElem? (i := 160) (by decide +kernel))) rfl
theorem tw_417 : Cond.code yX4_filled cX4_filled 4 (some .int) ∈ lw_g := tg (tm_2 _ (List.mem_of_getElem? (i := 161) (by decide +kernel))) rfl
theorem tw_418 : Cond.methodLink RX4 245 yX0_lackOfAll ∈ lw_g := tg (tm_2 _ (List.mem_of_getElem? (i := 162) (by decide +kernel))) rfl
theorem tw_419 : Cond.methodLink RX4 266 yX0_letIn ∈ lw_g := tg (tm_2 _ (List.mem_of_getElem? (i := 163) (by decide +kernel))) rfl
theorem tw_420 : Cond.methodLink RL 109 yX4_race ∈ lw_g := tg (tm_2 _ (List.mem_of_getElem? (i := 164) (by decide +kernel))) rfl
theorem tw_421 : Cond.instanceMethod yX4_race ∈ lw_g := tg (tm_2 _ (List.mem_of_getElem? (i := 165) (by decide +kernel))) rfl
theorem tw_422 : Cond.selects RX4 yX4_race yX4_race ∈ lw_g := tg (tm_2 _ (List.mem_of_getElem? (i := 166) (by decide +kernel))) rfl
theorem tw_423 : Cond.code yX4_race cX4_race 7 (some .int) ∈ lw_g := tg (tm_2 _ (List.mem_of_getElem? (i := 167) (by decide +kernel))) rfl
theorem tw_424 : Cond.methodLink RX4 211 Lib.Math.min.name ∈ lw_g := tg (tm_2 _ (List.mem_of_getElem? (i := 168) (by decide +kernel))) rfl
theorem tw_425 : Cond.methodLink RX4 260 Lib.Math.max.name ∈ lw_g := tg (tm_2 _ (List.mem_of_getElem? (i := 169) (by decide +kernel))) rfl
theorem tw_426 : Cond.methodLink RL 57 yX4_image ∈ lw_g := tg (tm_2 _ (List.mem_of_getElem? (i := 170) (by decide +kernel))) rfl
theorem tw_427 : Cond.instanceMethod yX4_image ∈ lw_g := tg (tm_2 _ (List.mem_of_getElem? (i := 171) (by decide +kernel))) rfl
theorem tw_428 : Cond.selects RX4 yX4_image yX4_image ∈ lw_g := tg (tm_2 _ (List.mem_of_getElem? (i := 172) (by decide +kernel))) rfl
theorem tw_429 : Cond.code yX4_image cX4_image 1 (some .int) ∈ lw_g := tg (tm_2 _ (List.mem_of_getElem? (i := 173) (by decide +kernel))) rfl
theorem tw_430 : Cond.methodLink RL 78 yX4_restore ∈ lw_g := tg (tm_2 _ (List.mem_of_getElem? (i := 174) (by decide +kernel))) rfl
theorem tw_431 : Cond.instanceMethod yX4_restore ∈ lw_g := tg (tm_2 _ (List.mem_of_getElem? (i := 175) (by decide +kernel))) rfl
theorem tw_432 : Cond.selects RX4 yX4_restore yX4_restore ∈ lw_g := tg (tm_2 _ (List.mem_of_getElem? (i := 176) (by decide +kernel))) rfl
theorem tw_433 : Cond.code yX4_restore cX4_restore 1 (some .int) ∈ lw_g := tg (tm_2 _ (List.mem_of_getElem? (i := 177) (by decide +kernel))) rfl
theorem tw_434 : Cond.methodLink RX4 86 yX2_drop ∈ lw_g := tg (tm_2 _ (List.mem_of_getElem? (i := 178) (by decide +kernel))) rfl
theorem tw_435 : Cond.instanceMethod yX2_drop ∈ lw_g := tg (tm_2 _ (List.mem_of_getElem? (i := 179) (by decide +kernel))) rfl
theorem tw_436 : Cond.selects RX2 yX2_drop yX2_drop ∈ lw_g := tg (tm_2 _ (List.mem_of_getElem? (i := 180) (by decide +kernel))) rfl
theorem tw_437 : Cond.code yX2_drop cX2_drop 1 (none) ∈ lw_g := tg (tm_2 _ (List.mem_of_getElem? (i := 181) (by decide +kernel))) rfl
theorem tw_438 : Cond.methodLink RL 54 yX4_count ∈ lw_g := tg (tm_2 _ (List.mem_of_getElem? (i := 182) (by decide +kernel))) rfl
theorem tw_439 : Cond.instanceMethod yX4_count ∈ lw_g := tg (tm_2 _ (List.mem_of_getElem? (i := 183) (by decide +kernel))) rfl
theorem tw_440 : Cond.selects RX4 yX4_count yX4_count ∈ lw_g := tg (tm_2 _ (List.mem_of_getElem? (i := 184) (by decide +kernel))) rfl
theorem tw_441 : Cond.code yX4_count cX4_count 3 (some .int) ∈ lw_g := tg (tm_2 _ (List.mem_of_getElem? (i := 185) (by decide +kernel))) rfl
theorem tw_442 : Cond.methodLink RX4 67 yX1_length ∈ lw_g := tg (tm_2 _ (List.mem_of_getElem? (i := 186) (by decide +kernel))) rfl
theorem tw_443 : Cond.instanceMethod yX1_length ∈ lw_g := tg (tm_2 _ (List.mem_of_getElem? (i := 187) (by decide +kernel))) rfl
theorem tw_444 : Cond.selects RX1 yX1_length yX1_length ∈ lw_g := tg (tm_2 _ (List.mem_of_getElem? (i := 188) (by decide +kernel))) rfl
theorem tw_445 : Cond.code yX1_length cX1_length 1 (some .int) ∈ lw_g := tg (tm_2 _ (List.mem_of_getElem? (i := 189) (by decide +kernel))) rfl
theorem tw_446 : Cond.methodLink RL 24 yL_cell ∈ lw_g := tg (tm_2 _ (List.mem_of_getElem? (i := 190) (by decide +kernel))) rfl
theorem tw_447 : Cond.static yL_cell ∈ lw_g := tg (tm_2 _ (List.mem_of_getElem? (i := 191) (by decide +kernel))) rfl
theorem tw_448 : Cond.code yL_cell cL_cell 2 (some .int) ∈ lw_g := tg (tm_2 _ (List.mem_of_getElem? (i := 192) (by decide +kernel))) rfl
theorem tw_449 : Cond.methodLink RL 28 yL_pick ∈ lw_g := tg (tm_2 _ (List.mem_of_getElem? (i := 193) (by decide +kernel))) rfl
theorem tw_450 : Cond.static yL_pick ∈ lw_g := tg (tm_2 _ (List.mem_of_getElem? (i := 194) (by decide +kernel))) rfl
theorem tw_451 : Cond.code yL_pick cL_pick 2 (some .int) ∈ lw_g := tg (tm_2 _ (List.mem_of_getElem? (i := 195) (by decide +kernel))) rfl
theorem tw_452 : (Jvm.Cond.constant "TakesWhatItLacksLaw" (7 : Nat) (2147483647 : Int32)) ∈ lw_g := tg (tm_2 _ (List.mem_of_getElem? (i := 196) (by decide +kernel))) rfl
theorem tw_453 : Cond.methodLink RL 50 yL_port ∈ lw_g := tg (tm_2 _ (List.mem_of_getElem? (i := 197) (by decide +kernel))) rfl
theorem tw_454 : Cond.static yL_port ∈ lw_g := tg (tm_2 _ (List.mem_of_getElem? (i := 198) (by decide +kernel))) rfl
theorem tw_455 : Cond.code yL_port cL_port 5 (none) ∈ lw_g := tg (tm_2 _ (List.mem_of_getElem? (i := 199) (by decide +kernel))) rfl
theorem tw_456 : Cond.methodLink RL 18 yL_tell ∈ lw_g := tg (tm_2 _ (List.mem_of_getElem? (i := 200) (by decide +kernel))) rfl
theorem tw_457 : Cond.static yL_tell ∈ lw_g := tg (tm_2 _ (List.mem_of_getElem? (i := 201) (by decide +kernel))) rfl
theorem tw_458 : Cond.code yL_tell cL_tell 6 (some .int) ∈ lw_g := tg (tm_2 _ (List.mem_of_getElem? (i := 202) (by decide +kernel))) rfl
theorem tw_459 : Cond.methodLink RL 8 yX4_feed ∈ lw_g := tg (tm_2 _ (List.mem_of_getElem? (i := 203) (by decide +kernel))) rfl
theorem tw_460 : Cond.instanceMethod yX4_feed ∈ lw_g := tg (tm_2 _ (List.mem_of_getElem? (i := 204) (by decide +kernel))) rfl
theorem tw_461 : Cond.selects RX4 yX4_feed yX4_feed ∈ lw_g := tg (tm_2 _ (List.mem_of_getElem? (i := 205) (by decide +kernel))) rfl
theorem tw_462 : Cond.code yX4_feed cX4_feed 2 (some .int) ∈ lw_g := tg (tm_2 _ (List.mem_of_getElem? (i := 206) (by decide +kernel))) rfl
theorem tw_463 : Cond.methodLink RX4 60 yX1_isFull ∈ lw_g := tg (tm_2 _ (List.mem_of_getElem? (i := 207) (by decide +kernel))) rfl
theorem tw_464 : Cond.instanceMethod yX1_isFull ∈ lw_g := tg (tm_2 _ (List.mem_of_getElem? (i := 208) (by decide +kernel))) rfl
theorem tw_465 : Cond.selects RX1 yX1_isFull yX1_isFull ∈ lw_g := tg (tm_2 _ (List.mem_of_getElem? (i := 209) (by decide +kernel))) rfl
theorem tw_466 : Cond.code yX1_isFull cX1_isFull 1 (some .boolean) ∈ lw_g := tg (tm_2 _ (List.mem_of_getElem? (i := 210) (by decide +kernel))) rfl
theorem tw_467 : Cond.methodLink RX4 64 yX1_add ∈ lw_g := tg (tm_2 _ (List.mem_of_getElem? (i := 211) (by decide +kernel))) rfl
theorem tw_468 : Cond.instanceMethod yX1_add ∈ lw_g := tg (tm_2 _ (List.mem_of_getElem? (i := 212) (by decide +kernel))) rfl
theorem tw_469 : Cond.selects RX1 yX1_add yX1_add ∈ lw_g := tg (tm_2 _ (List.mem_of_getElem? (i := 213) (by decide +kernel))) rfl
theorem tw_470 : Cond.code yX1_add cX1_add 2 (none) ∈ lw_g := tg (tm_2 _ (List.mem_of_getElem? (i := 214) (by decide +kernel))) rfl
theorem tw_471 : Cond.methodLink RL 14 yX4_harbour ∈ lw_g := tg (tm_2 _ (List.mem_of_getElem? (i := 215) (by decide +kernel))) rfl
theorem tw_472 : Cond.instanceMethod yX4_harbour ∈ lw_g := tg (tm_2 _ (List.mem_of_getElem? (i := 216) (by decide +kernel))) rfl
theorem tw_473 : Cond.selects RX4 yX4_harbour yX4_harbour ∈ lw_g := tg (tm_2 _ (List.mem_of_getElem? (i := 217) (by decide +kernel))) rfl
theorem tw_474 : Cond.code yX4_harbour cX4_harbour 2 (some .int) ∈ lw_g := tg (tm_2 _ (List.mem_of_getElem? (i := 218) (by decide +kernel))) rfl
theorem tw_475 : Cond.methodLink RX4 75 yX3_tell ∈ lw_g := tg (tm_2 _ (List.mem_of_getElem? (i := 219) (by decide +kernel))) rfl
theorem tw_476 : Cond.instanceMethod yX3_tell ∈ lw_g := tg (tm_2 _ (List.mem_of_getElem? (i := 220) (by decide +kernel))) rfl
theorem tw_477 : Cond.selects RX3 yX3_tell yX3_tell ∈ lw_g := tg (tm_2 _ (List.mem_of_getElem? (i := 221) (by decide +kernel))) rfl
theorem tw_478 : Cond.code yX3_tell cX3_tell 5 (some .int) ∈ lw_g := tg (tm_2 _ (List.mem_of_getElem? (i := 222) (by decide +kernel))) rfl
theorem tw_479 : Cond.methodLink RX3 20 yX3_faultyLetter ∈ lw_g := tg (tm_2 _ (List.mem_of_getElem? (i := 223) (by decide +kernel))) rfl
theorem tw_481 : Cond.instanceMethod yX3_faultyLetter ∈ lw_g := tg (tm_2 _ (List.mem_of_getElem? (i := 225) (by decide +kernel))) rfl
theorem tw_482 : Cond.code yX3_faultyLetter cX3_faultyLetter 4 (some .int) ∈ lw_g := tg (tm_2 _ (List.mem_of_getElem? (i := 226) (by decide +kernel))) rfl
theorem tw_483 : Cond.methodLink RX3 24 yX1_length ∈ lw_g := tg (tm_2 _ (List.mem_of_getElem? (i := 227) (by decide +kernel))) rfl
theorem tw_484 : Cond.methodLink RX3 42 yX3_faultyLetterFrom ∈ lw_g := tg (tm_2 _ (List.mem_of_getElem? (i := 228) (by decide +kernel))) rfl
theorem tw_486 : Cond.instanceMethod yX3_faultyLetterFrom ∈ lw_g := tg (tm_2 _ (List.mem_of_getElem? (i := 230) (by decide +kernel))) rfl
theorem tw_487 : Cond.code yX3_faultyLetterFrom cX3_faultyLetterFrom 5 (some .int) ∈ lw_g := tg (tm_2 _ (List.mem_of_getElem? (i := 231) (by decide +kernel))) rfl
theorem tw_488 : Cond.methodLink RX3 35 yX1_at ∈ lw_g := tg (tm_2 _ (List.mem_of_getElem? (i := 232) (by decide +kernel))) rfl
theorem tw_489 : Cond.instanceMethod yX1_at ∈ lw_g := tg (tm_2 _ (List.mem_of_getElem? (i := 233) (by decide +kernel))) rfl
theorem tw_490 : Cond.selects RX1 yX1_at yX1_at ∈ lw_g := tg (tm_2 _ (List.mem_of_getElem? (i := 234) (by decide +kernel))) rfl
theorem tw_491 : Cond.code yX1_at cX1_at 2 (some .int) ∈ lw_g := tg (tm_2 _ (List.mem_of_getElem? (i := 235) (by decide +kernel))) rfl
theorem tw_492 : Cond.methodLink RX3 39 yX3_sizeOf ∈ lw_g := tg (tm_2 _ (List.mem_of_getElem? (i := 236) (by decide +kernel))) rfl
theorem tw_493 : Cond.static yX3_sizeOf ∈ lw_g := tg (tm_2 _ (List.mem_of_getElem? (i := 237) (by decide +kernel))) rfl
theorem tw_494 : Cond.code yX3_sizeOf cX3_sizeOf 1 (some .int) ∈ lw_g := tg (tm_2 _ (List.mem_of_getElem? (i := 238) (by decide +kernel))) rfl
theorem tw_495 : Cond.methodLink RX3 45 yX3_digit ∈ lw_g := tg (tm_2 _ (List.mem_of_getElem? (i := 239) (by decide +kernel))) rfl
theorem tw_497 : Cond.instanceMethod yX3_digit ∈ lw_g := tg (tm_3 _ (List.mem_of_getElem? (i := 1) (by decide +kernel))) rfl
theorem tw_498 : Cond.code yX3_digit cX3_digit 3 (some .int) ∈ lw_g := tg (tm_3 _ (List.mem_of_getElem? (i := 2) (by decide +kernel))) rfl
theorem tw_499 : Cond.methodLink RX3 27 yX3_isAsItMustBe ∈ lw_g := tg (tm_3 _ (List.mem_of_getElem? (i := 3) (by decide +kernel))) rfl
theorem tw_501 : Cond.instanceMethod yX3_isAsItMustBe ∈ lw_g := tg (tm_3 _ (List.mem_of_getElem? (i := 5) (by decide +kernel))) rfl
theorem tw_502 : Cond.code yX3_isAsItMustBe cX3_isAsItMustBe 4 (some .boolean) ∈ lw_g := tg (tm_3 _ (List.mem_of_getElem? (i := 6) (by decide +kernel))) rfl
theorem tw_503 : (Jvm.Cond.methodLinkNest "TakesWhatItLacks$Text" (48 : Nat) ({ cls := "TakesWhatItLacks", name := "isGood", desc := "(I)Z" } : Jvm.MethodName) "TakesWhatItLacks") ∈ lw_tbl := tm_3 _ (List.mem_of_getElem? (i := 7) (by decide +kernel))
theorem tw_504 : Cond.methodLink RX3 58 yX3_twoDigits ∈ lw_g := tg (tm_3 _ (List.mem_of_getElem? (i := 8) (by decide +kernel))) rfl
theorem tw_506 : Cond.instanceMethod yX3_twoDigits ∈ lw_g := tg (tm_3 _ (List.mem_of_getElem? (i := 10) (by decide +kernel))) rfl
theorem tw_507 : Cond.code yX3_twoDigits cX3_twoDigits 2 (some .int) ∈ lw_g := tg (tm_3 _ (List.mem_of_getElem? (i := 11) (by decide +kernel))) rfl
theorem tw_508 : Cond.methodLink RX3 61 yX0_canHide ∈ lw_g := tg (tm_3 _ (List.mem_of_getElem? (i := 12) (by decide +kernel))) rfl
theorem tw_509 : Cond.methodLink RX3 65 yX0_isShip ∈ lw_g := tg (tm_3 _ (List.mem_of_getElem? (i := 13) (by decide +kernel))) rfl
theorem tw_510 : Cond.methodLink RX3 68 yX0_isIn ∈ lw_g := tg (tm_3 _ (List.mem_of_getElem? (i := 14) (by decide +kernel))) rfl
theorem tw_511 : Cond.methodLink RX3 74 Lib.Math.min.name ∈ lw_g := tg (tm_3 _ (List.mem_of_getElem? (i := 15) (by decide +kernel))) rfl
theorem tw_512 : (Jvm.Cond.methodLinkNest "TakesWhatItLacks$Text" (80 : Nat) ({ cls := "TakesWhatItLacks", name := "misfit", desc := "(III)I" } : Jvm.MethodName) "TakesWhatItLacks") ∈ lw_tbl := tm_3 _ (List.mem_of_getElem? (i := 16) (by decide +kernel))
theorem tw_513 : Cond.methodLink RX3 31 yX3_carryOut ∈ lw_g := tg (tm_3 _ (List.mem_of_getElem? (i := 17) (by decide +kernel))) rfl
theorem tw_515 : Cond.instanceMethod yX3_carryOut ∈ lw_g := tg (tm_3 _ (List.mem_of_getElem? (i := 19) (by decide +kernel))) rfl
theorem tw_516 : Cond.code yX3_carryOut cX3_carryOut 4 (none) ∈ lw_g := tg (tm_3 _ (List.mem_of_getElem? (i := 20) (by decide +kernel))) rfl
theorem tw_517 : Cond.methodLink RX3 84 yX0_addShip ∈ lw_g := tg (tm_3 _ (List.mem_of_getElem? (i := 21) (by decide +kernel))) rfl
theorem tw_518 : Cond.instanceMethod yX0_addShip ∈ lw_g := tg (tm_3 _ (List.mem_of_getElem? (i := 22) (by decide +kernel))) rfl
theorem tw_519 : Cond.selects RX0 yX0_addShip yX0_addShip ∈ lw_g := tg (tm_3 _ (List.mem_of_getElem? (i := 23) (by decide +kernel))) rfl
theorem tw_520 : Cond.code yX0_addShip cX0_addShip 5 (none) ∈ lw_g := tg (tm_3 _ (List.mem_of_getElem? (i := 24) (by decide +kernel))) rfl
theorem tw_521 : Cond.methodLink RX0 46 yX0_sendOut ∈ lw_g := tg (tm_3 _ (List.mem_of_getElem? (i := 25) (by decide +kernel))) rfl
theorem tw_522 : Cond.methodLink RX3 95 yX0_hideAway ∈ lw_g := tg (tm_3 _ (List.mem_of_getElem? (i := 26) (by decide +kernel))) rfl
theorem tw_523 : Cond.methodLink RX3 99 yX0_sendOut ∈ lw_g := tg (tm_3 _ (List.mem_of_getElem? (i := 27) (by decide +kernel))) rfl
theorem tw_524 : Cond.methodLink RX3 105 yX0_passDays ∈ lw_g := tg (tm_3 _ (List.mem_of_getElem? (i := 28) (by decide +kernel))) rfl
theorem tw_525 : Cond.methodLink RX4 79 yX1_drop ∈ lw_g := tg (tm_3 _ (List.mem_of_getElem? (i := 29) (by decide +kernel))) rfl
theorem tw_526 : Cond.instanceMethod yX1_drop ∈ lw_g := tg (tm_3 _ (List.mem_of_getElem? (i := 30) (by decide +kernel))) rfl
theorem tw_527 : Cond.selects RX1 yX1_drop yX1_drop ∈ lw_g := tg (tm_3 _ (List.mem_of_getElem? (i := 31) (by decide +kernel))) rfl
theorem tw_528 : Cond.code yX1_drop cX1_drop 1 (none) ∈ lw_g := tg (tm_3 _ (List.mem_of_getElem? (i := 32) (by decide +kernel))) rfl
theorem tw_529 : Cond.methodLink RL 38 yL_ship ∈ lw_g := tg (tm_3 _ (List.mem_of_getElem? (i := 33) (by decide +kernel))) rfl
theorem tw_530 : Cond.static yL_ship ∈ lw_g := tg (tm_3 _ (List.mem_of_getElem? (i := 34) (by decide +kernel))) rfl
theorem tw_531 : Cond.code yL_ship cL_ship 5 (some .int) ∈ lw_g := tg (tm_3 _ (List.mem_of_getElem? (i := 35) (by decide +kernel))) rfl
theorem tw_532 : Cond.methodLink RL 123 yJ6_bitCount_0f7a4 ∈ lw_g := tg (tm_3 _ (List.mem_of_getElem? (i := 36) (by decide +kernel))) rfl
theorem tw_533 : Cond.methodLink RL 112 Lib.Math.min.name ∈ lw_g := tg (tm_3 _ (List.mem_of_getElem? (i := 37) (by decide +kernel))) rfl
theorem ui0 : ∀ w ∈ u_ws RX0 TX0 11, w ∈ lw_g := List.forall_mem_cons.mpr ⟨tw_65, List.forall_mem_cons.mpr ⟨tw_67, List.forall_mem_cons.mpr ⟨tw_69, List.forall_mem_cons.mpr ⟨tw_71, List.forall_mem_cons.mpr ⟨tw_73, List.forall_mem_cons.mpr ⟨tw_75, List.forall_mem_cons.mpr ⟨tw_77, List.forall_mem_cons.mpr ⟨tw_79, List.forall_mem_cons.mpr ⟨tw_81, List.forall_mem_cons.mpr ⟨tw_83, List.forall_mem_cons.mpr ⟨tw_85, fun _ h => absurd h List.not_mem_nil⟩⟩⟩⟩⟩⟩⟩⟩⟩⟩⟩
theorem ui1 : ∀ w ∈ u_ws RX1 TX1 2, w ∈ lw_g := List.forall_mem_cons.mpr ⟨tw_122, List.forall_mem_cons.mpr ⟨tw_124, fun _ h => absurd h List.not_mem_nil⟩⟩
theorem ui2 : ∀ w ∈ u_ws RX2 TX2 2, w ∈ lw_g := List.forall_mem_cons.mpr ⟨tw_100, List.forall_mem_cons.mpr ⟨tw_102, fun _ h => absurd h List.not_mem_nil⟩⟩
theorem ui3 : ∀ w ∈ u_ws RX3 TX3 1, w ∈ lw_g := List.forall_mem_cons.mpr ⟨tw_129, fun _ h => absurd h List.not_mem_nil⟩
theorem ui4 : ∀ w ∈ u_ws RX4 TX4 8, w ∈ lw_g := List.forall_mem_cons.mpr ⟨tw_142, List.forall_mem_cons.mpr ⟨tw_144, List.forall_mem_cons.mpr ⟨tw_146, List.forall_mem_cons.mpr ⟨tw_148, List.forall_mem_cons.mpr ⟨tw_150, List.forall_mem_cons.mpr ⟨tw_152, List.forall_mem_cons.mpr ⟨tw_154, List.forall_mem_cons.mpr ⟨tw_156, fun _ h => absurd h List.not_mem_nil⟩⟩⟩⟩⟩⟩⟩⟩
