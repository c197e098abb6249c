theorem tm_1 : ∀ w ∈ tables_1_1, w ∈ lw_tbl := fun _ h => List.mem_append_right _ (List.mem_append_left _ h)
theorem tm_2 : ∀ w ∈ tables_1_2, w ∈ lw_tbl := fun _ h => List.mem_append_right _ (List.mem_append_right _ (List.mem_append_left _ h))
theorem tm_3 : ∀ w ∈ tables_1_3, w ∈ lw_tbl := fun _ h => List.mem_append_right _ (List.mem_append_right _ (List.mem_append_right _ (List.mem_append_left _ h)))
theorem tm_4 : ∀ w ∈ tables_1_4, w ∈ lw_tbl := fun _ h => List.mem_append_right _ (List.mem_append_right _ (List.mem_append_right _ (List.mem_append_right _ (List.mem_append_left _ h))))
theorem tm_5 : ∀ w ∈ tables_1_5, w ∈ lw_tbl := fun _ h => List.mem_append_right _ (List.mem_append_right _ (List.mem_append_right _ (List.mem_append_right _ (List.mem_append_right _ h))))
theorem tm_0 : ∀ w ∈ k2_sels lw_privs, w ∈ lw_tbl := fun _ h => List.mem_append_left _ h
/-- the words that a callee may be given -/
def lw_g : List Cond := lw_tbl.filter goodWord
theorem tg {w : Cond} (h : w ∈ lw_tbl) (hg : goodWord w = true) : w ∈ lw_g := List.mem_filter.mpr ⟨h, hg⟩
theorem lw_good {w : Cond} (h : w ∈ lw_g) : (w.onTables && w.keeps) = true ∨ ∃ ty, w = .arrayClass ty := good_of_word (List.mem_filter.mp h).2
theorem lw_gt {w : Cond} (h : w ∈ lw_g) : w ∈ lw_tbl := (List.mem_filter.mp h).1
theorem tw_0 : Cond.selects RX4 yX4_refuse yX4_refuse ∈ lw_g := tg (tm_0 _ (List.mem_of_getElem? (i := 0) (by decide +kernel))) rfl
theorem tw_1 : Cond.selects RX4 yX4_fromNow yX4_fromNow ∈ lw_g := tg (tm_0 _ (List.mem_of_getElem? (i := 1) (by decide +kernel))) rfl
theorem tw_2 : Cond.selects RX3 yX3_faultyLetter yX3_faultyLetter ∈ lw_g := tg (tm_0 _ (List.mem_of_getElem? (i := 2) (by decide +kernel))) rfl
theorem tw_3 : Cond.selects RX3 yX3_faultyLetterFrom yX3_faultyLetterFrom ∈ lw_g := tg (tm_0 _ (List.mem_of_getElem? (i := 3) (by decide +kernel))) rfl
theorem tw_4 : Cond.selects RX3 yX3_digit yX3_digit ∈ lw_g := tg (tm_0 _ (List.mem_of_getElem? (i := 4) (by decide +kernel))) rfl
theorem tw_5 : Cond.selects RX3 yX3_isAsItMustBe yX3_isAsItMustBe ∈ lw_g := tg (tm_0 _ (List.mem_of_getElem? (i := 5) (by decide +kernel))) rfl
theorem tw_6 : Cond.selects RX3 yX3_twoDigits yX3_twoDigits ∈ lw_g := tg (tm_0 _ (List.mem_of_getElem? (i := 6) (by decide +kernel))) rfl
theorem tw_7 : Cond.selects RX3 yX3_carryOut yX3_carryOut ∈ lw_g := tg (tm_0 _ (List.mem_of_getElem? (i := 7) (by decide +kernel))) rfl
theorem tw_8 : Cond.selects RX0 yX0_hiddenOf yX0_hiddenOf ∈ lw_g := tg (tm_0 _ (List.mem_of_getElem? (i := 8) (by decide +kernel))) rfl
theorem tw_9 : Cond.selects RX2 yX2_forgetOldest yX2_forgetOldest ∈ lw_g := tg (tm_0 _ (List.mem_of_getElem? (i := 9) (by decide +kernel))) rfl
theorem tw_10 : Cond.selects RX2 yX2_at yX2_at ∈ lw_g := tg (tm_0 _ (List.mem_of_getElem? (i := 10) (by decide +kernel))) rfl
theorem tw_11 : Cond.selects RX4 yX4_firstToComeIn yX4_firstToComeIn ∈ lw_g := tg (tm_0 _ (List.mem_of_getElem? (i := 11) (by decide +kernel))) rfl
theorem tw_12 : Cond.selects RX4 yX4_isShut yX4_isShut ∈ lw_g := tg (tm_0 _ (List.mem_of_getElem? (i := 12) (by decide +kernel))) rfl
theorem tw_13 : Cond.selects RX4 yX4_isInNextDay yX4_isInNextDay ∈ lw_g := tg (tm_0 _ (List.mem_of_getElem? (i := 13) (by decide +kernel))) rfl
theorem tw_14 : Cond.selects RX4 yX4_isInWithout yX4_isInWithout ∈ lw_g := tg (tm_0 _ (List.mem_of_getElem? (i := 14) (by decide +kernel))) rfl
theorem tw_15 : Cond.selects RX4 yX4_isInUnlacked yX4_isInUnlacked ∈ lw_g := tg (tm_0 _ (List.mem_of_getElem? (i := 15) (by decide +kernel))) rfl
theorem tw_16 : Cond.selects RX4 yX4_tellsWhoCame yX4_tellsWhoCame ∈ lw_g := tg (tm_0 _ (List.mem_of_getElem? (i := 16) (by decide +kernel))) rfl
theorem tw_17 : Cond.selects RX4 yX4_tellsDepths yX4_tellsDepths ∈ lw_g := tg (tm_0 _ (List.mem_of_getElem? (i := 17) (by decide +kernel))) rfl
theorem tw_18 : Cond.selects RX4 yX4_loss yX4_loss ∈ lw_g := tg (tm_0 _ (List.mem_of_getElem? (i := 18) (by decide +kernel))) rfl
theorem tw_19 : Cond.selects RX4 yX4_refuseLong yX4_refuseLong ∈ lw_g := tg (tm_0 _ (List.mem_of_getElem? (i := 19) (by decide +kernel))) rfl
theorem tw_20 : Cond.selects RX4 yX4_isInThrough yX4_isInThrough ∈ lw_g := tg (tm_0 _ (List.mem_of_getElem? (i := 20) (by decide +kernel))) rfl
theorem tw_21 : Cond.selects RX5 yX5_no yX5_no ∈ lw_g := tg (tm_0 _ (List.mem_of_getElem? (i := 21) (by decide +kernel))) rfl
theorem tw_22 : Cond.selects RX5 yX5_statement yX5_statement ∈ lw_g := tg (tm_0 _ (List.mem_of_getElem? (i := 22) (by decide +kernel))) rfl
theorem tw_23 : Cond.selects RX5 yX5_next yX5_next ∈ lw_g := tg (tm_0 _ (List.mem_of_getElem? (i := 23) (by decide +kernel))) rfl
theorem tw_24 : Cond.selects RX5 yX5_readsAll yX5_readsAll ∈ lw_g := tg (tm_0 _ (List.mem_of_getElem? (i := 24) (by decide +kernel))) rfl
theorem tw_25 : Cond.selects RX5 yX5_readsDigits yX5_readsDigits ∈ lw_g := tg (tm_0 _ (List.mem_of_getElem? (i := 25) (by decide +kernel))) rfl
theorem tw_26 : Cond.selects RX5 yX5_passesAll yX5_passesAll ∈ lw_g := tg (tm_0 _ (List.mem_of_getElem? (i := 26) (by decide +kernel))) rfl
theorem tw_27 : Cond.selects RX5 yX5_passes yX5_passes ∈ lw_g := tg (tm_0 _ (List.mem_of_getElem? (i := 27) (by decide +kernel))) rfl
theorem tw_28 : Cond.selects RX5 yX5_passOne yX5_passOne ∈ lw_g := tg (tm_0 _ (List.mem_of_getElem? (i := 28) (by decide +kernel))) rfl
theorem tw_29 : Cond.selects RX5 yX5_comesTold yX5_comesTold ∈ lw_g := tg (tm_0 _ (List.mem_of_getElem? (i := 29) (by decide +kernel))) rfl
theorem tw_30 : Cond.selects RX5 yX5_comesShip yX5_comesShip ∈ lw_g := tg (tm_0 _ (List.mem_of_getElem? (i := 30) (by decide +kernel))) rfl
theorem tw_31 : Cond.selects RX5 yX5_adds yX5_adds ∈ lw_g := tg (tm_0 _ (List.mem_of_getElem? (i := 31) (by decide +kernel))) rfl
theorem tw_32 : Cond.selects RX5 yX5_isShip yX5_isShip ∈ lw_g := tg (tm_0 _ (List.mem_of_getElem? (i := 32) (by decide +kernel))) rfl
theorem tw_33 : Cond.selects RX5 yX5_comesDays yX5_comesDays ∈ lw_g := tg (tm_0 _ (List.mem_of_getElem? (i := 33) (by decide +kernel))) rfl
theorem tw_34 : Cond.selects RX5 yX5_goes yX5_goes ∈ lw_g := tg (tm_0 _ (List.mem_of_getElem? (i := 34) (by decide +kernel))) rfl
theorem tw_35 : Cond.selects RX5 yX5_goesDay yX5_goesDay ∈ lw_g := tg (tm_0 _ (List.mem_of_getElem? (i := 35) (by decide +kernel))) rfl
theorem tw_36 : Cond.selects RX5 yX5_canCome yX5_canCome ∈ lw_g := tg (tm_0 _ (List.mem_of_getElem? (i := 36) (by decide +kernel))) rfl
theorem tw_37 : Cond.selects RX5 yX5_depth yX5_depth ∈ lw_g := tg (tm_0 _ (List.mem_of_getElem? (i := 37) (by decide +kernel))) rfl
theorem tw_38 : Cond.selects RX5 yX5_sinks yX5_sinks ∈ lw_g := tg (tm_0 _ (List.mem_of_getElem? (i := 38) (by decide +kernel))) rfl
theorem tw_39 : Cond.selects RX5 yX5_lack yX5_lack ∈ lw_g := tg (tm_0 _ (List.mem_of_getElem? (i := 39) (by decide +kernel))) rfl
theorem tw_40 : Cond.selects RX5 yX5_following yX5_following ∈ lw_g := tg (tm_0 _ (List.mem_of_getElem? (i := 40) (by decide +kernel))) rfl
theorem tw_41 : Cond.selects RX5 yX5_plenty yX5_plenty ∈ lw_g := tg (tm_0 _ (List.mem_of_getElem? (i := 41) (by decide +kernel))) rfl
theorem tw_42 : Cond.selects RX5 yX5_draws yX5_draws ∈ lw_g := tg (tm_0 _ (List.mem_of_getElem? (i := 42) (by decide +kernel))) rfl
theorem tw_43 : Cond.selects RX5 yX5_bringsAll yX5_bringsAll ∈ lw_g := tg (tm_0 _ (List.mem_of_getElem? (i := 43) (by decide +kernel))) rfl
theorem tw_44 : Cond.selects RX5 yX5_brings yX5_brings ∈ lw_g := tg (tm_0 _ (List.mem_of_getElem? (i := 44) (by decide +kernel))) rfl
theorem tw_45 : Cond.selects RX5 yX5_comesGood yX5_comesGood ∈ lw_g := tg (tm_0 _ (List.mem_of_getElem? (i := 45) (by decide +kernel))) rfl
theorem tw_46 : Cond.selects RX5 yX5_isHiding yX5_isHiding ∈ lw_g := tg (tm_0 _ (List.mem_of_getElem? (i := 46) (by decide +kernel))) rfl
theorem tw_47 : Cond.selects RX5 yX5_canHide yX5_canHide ∈ lw_g := tg (tm_0 _ (List.mem_of_getElem? (i := 47) (by decide +kernel))) rfl
theorem tw_48 : Cond.selects RX5 yX5_hidesOf yX5_hidesOf ∈ lw_g := tg (tm_0 _ (List.mem_of_getElem? (i := 48) (by decide +kernel))) rfl
theorem tw_49 : Cond.selects RX5 yX5_keepsBack yX5_keepsBack ∈ lw_g := tg (tm_0 _ (List.mem_of_getElem? (i := 49) (by decide +kernel))) rfl
theorem tw_50 : Cond.selects RX5 yX5_inOnes yX5_inOnes ∈ lw_g := tg (tm_0 _ (List.mem_of_getElem? (i := 50) (by decide +kernel))) rfl
theorem tw_51 : Cond.selects RX5 yX5_thinks yX5_thinks ∈ lw_g := tg (tm_0 _ (List.mem_of_getElem? (i := 51) (by decide +kernel))) rfl
theorem tw_52 : Cond.selects RX5 yX5_forgets yX5_forgets ∈ lw_g := tg (tm_0 _ (List.mem_of_getElem? (i := 52) (by decide +kernel))) rfl
theorem tw_53 : Cond.selects RX5 yX5_firstOne yX5_firstOne ∈ lw_g := tg (tm_0 _ (List.mem_of_getElem? (i := 53) (by decide +kernel))) rfl
theorem tw_54 : Cond.selects RX5 yX5_comesIn yX5_comesIn ∈ lw_g := tg (tm_0 _ (List.mem_of_getElem? (i := 54) (by decide +kernel))) rfl
theorem tw_55 : Cond.selects RX5 yX5_isShut yX5_isShut ∈ lw_g := tg (tm_0 _ (List.mem_of_getElem? (i := 55) (by decide +kernel))) rfl
theorem tw_56 : Cond.selects RX5 yX5_isInNext yX5_isInNext ∈ lw_g := tg (tm_0 _ (List.mem_of_getElem? (i := 56) (by decide +kernel))) rfl
theorem tw_57 : Cond.selects RX5 yX5_findLoaded yX5_findLoaded ∈ lw_g := tg (tm_0 _ (List.mem_of_getElem? (i := 57) (by decide +kernel))) rfl
theorem tw_58 : Cond.selects RX5 yX5_comesHiding yX5_comesHiding ∈ lw_g := tg (tm_0 _ (List.mem_of_getElem? (i := 58) (by decide +kernel))) rfl
theorem tw_59 : Cond.selects RX5 yX5_comesShort yX5_comesShort ∈ lw_g := tg (tm_0 _ (List.mem_of_getElem? (i := 59) (by decide +kernel))) rfl
theorem tw_60 : Cond.selects RX5 yX5_changes yX5_changes ∈ lw_g := tg (tm_0 _ (List.mem_of_getElem? (i := 60) (by decide +kernel))) rfl
theorem tw_61 : Cond.selects RX5 yX5_changesBack yX5_changesBack ∈ lw_g := tg (tm_0 _ (List.mem_of_getElem? (i := 61) (by decide +kernel))) rfl
theorem tw_62 : Cond.selects RX5 yX5_comesWithout yX5_comesWithout ∈ lw_g := tg (tm_0 _ (List.mem_of_getElem? (i := 62) (by decide +kernel))) rfl
theorem tw_63 : Cond.selects RX5 yX5_wantIn yX5_wantIn ∈ lw_g := tg (tm_0 _ (List.mem_of_getElem? (i := 63) (by decide +kernel))) rfl
theorem tw_64 : Cond.selects RX5 yX5_allLack yX5_allLack ∈ lw_g := tg (tm_0 _ (List.mem_of_getElem? (i := 64) (by decide +kernel))) rfl
theorem tw_65 : Cond.selects RX5 yX5_findBare yX5_findBare ∈ lw_g := tg (tm_0 _ (List.mem_of_getElem? (i := 65) (by decide +kernel))) rfl
theorem tw_66 : Cond.selects RX5 yX5_isTownSo yX5_isTownSo ∈ lw_g := tg (tm_0 _ (List.mem_of_getElem? (i := 66) (by decide +kernel))) rfl
theorem tw_67 : Cond.selects RX5 yX5_bitsFor yX5_bitsFor ∈ lw_g := tg (tm_0 _ (List.mem_of_getElem? (i := 67) (by decide +kernel))) rfl
theorem tw_68 : Cond.selects RX5 yX5_isDeepSo yX5_isDeepSo ∈ lw_g := tg (tm_0 _ (List.mem_of_getElem? (i := 68) (by decide +kernel))) rfl
theorem tw_69 : Cond.selects RX5 yX5_findCosts yX5_findCosts ∈ lw_g := tg (tm_0 _ (List.mem_of_getElem? (i := 69) (by decide +kernel))) rfl
theorem tw_70 : Cond.selects RX5 yX5_hidesTen yX5_hidesTen ∈ lw_g := tg (tm_0 _ (List.mem_of_getElem? (i := 70) (by decide +kernel))) rfl
theorem tw_71 : Cond.selects RX5 yX5_lowestOf yX5_lowestOf ∈ lw_g := tg (tm_0 _ (List.mem_of_getElem? (i := 71) (by decide +kernel))) rfl
theorem tw_72 : Cond.selects RX5 yX5_deepestOne yX5_deepestOne ∈ lw_g := tg (tm_0 _ (List.mem_of_getElem? (i := 72) (by decide +kernel))) rfl
theorem tw_73 : Cond.selects RX5 yX5_shortest yX5_shortest ∈ lw_g := tg (tm_0 _ (List.mem_of_getElem? (i := 73) (by decide +kernel))) rfl
theorem tw_74 : Cond.selects RX5 yX5_plentiful yX5_plentiful ∈ lw_g := tg (tm_0 _ (List.mem_of_getElem? (i := 74) (by decide +kernel))) rfl
theorem tw_75 : Cond.selects RX5 yX5_twins yX5_twins ∈ lw_g := tg (tm_0 _ (List.mem_of_getElem? (i := 75) (by decide +kernel))) rfl
theorem tw_76 : Cond.selects RX5 yX5_lower yX5_lower ∈ lw_g := tg (tm_0 _ (List.mem_of_getElem? (i := 76) (by decide +kernel))) rfl
theorem tw_77 : Cond.selects RX5 yX5_draw yX5_draw ∈ lw_g := tg (tm_0 _ (List.mem_of_getElem? (i := 77) (by decide +kernel))) rfl
theorem tw_78 : Cond.initialized RL ∈ lw_g := tg (tm_1 _ (List.mem_of_getElem? (i := 0) (by decide +kernel))) rfl
theorem tw_79 : Cond.initialized RX4 ∈ lw_g := tg (tm_1 _ (List.mem_of_getElem? (i := 1) (by decide +kernel))) rfl
theorem tw_80 : Cond.initialized RX0 ∈ lw_g := tg (tm_1 _ (List.mem_of_getElem? (i := 2) (by decide +kernel))) rfl
theorem tw_81 : Cond.initialized RX2 ∈ lw_g := tg (tm_1 _ (List.mem_of_getElem? (i := 3) (by decide +kernel))) rfl
theorem tw_82 : Cond.initialized RX3 ∈ lw_g := tg (tm_1 _ (List.mem_of_getElem? (i := 4) (by decide +kernel))) rfl
theorem tw_83 : Cond.initialized RX1 ∈ lw_g := tg (tm_1 _ (List.mem_of_getElem? (i := 5) (by decide +kernel))) rfl
theorem tw_84 : Cond.initialized RJ9 ∈ lw_g := tg (tm_1 _ (List.mem_of_getElem? (i := 6) (by decide +kernel))) rfl
theorem tw_85 : Cond.initialized RX5 ∈ lw_g := tg (tm_1 _ (List.mem_of_getElem? (i := 7) (by decide +kernel))) rfl
theorem tw_86 : Cond.initialized RJ6 ∈ lw_g := tg (tm_1 _ (List.mem_of_getElem? (i := 8) (by decide +kernel))) rfl
theorem tw_87 : Cond.classLink RL 7 RX4 ∈ lw_g := tg (tm_1 _ (List.mem_of_getElem? (i := 9) (by decide +kernel))) rfl
theorem tw_88 : Cond.instantiable RX4 8 ∈ lw_g := tg (tm_1 _ (List.mem_of_getElem? (i := 10) (by decide +kernel))) rfl
theorem tw_89 : Cond.methodLink RL 9 yX4_init ∈ lw_g := tg (tm_1 _ (List.mem_of_getElem? (i := 11) (by decide +kernel))) rfl
theorem tw_90 : Cond.instanceMethod yX4_init ∈ lw_g := tg (tm_1 _ (List.mem_of_getElem? (i := 12) (by decide +kernel))) rfl
theorem tw_91 : Cond.code yX4_init cX4_init 1 (none) ∈ lw_g := tg (tm_1 _ (List.mem_of_getElem? (i := 13) (by decide +kernel))) rfl
theorem tw_92 : Cond.methodLink RX4 1 objectInit ∈ lw_g := tg (tm_1 _ (List.mem_of_getElem? (i := 14) (by decide +kernel))) rfl
theorem tw_93 : Cond.instanceMethod objectInit ∈ lw_g := tg (tm_1 _ (List.mem_of_getElem? (i := 15) (by decide +kernel))) rfl
theorem tw_94 : Cond.code objectInit ⟨#[0xb1]⟩ 1 (none) ∈ lw_g := tg (tm_1 _ (List.mem_of_getElem? (i := 16) (by decide +kernel))) rfl
theorem tw_95 : Cond.classLink RX4 7 RX0 ∈ lw_g := tg (tm_1 _ (List.mem_of_getElem? (i := 17) (by decide +kernel))) rfl
theorem tw_96 : Cond.instantiable RX0 11 ∈ lw_g := tg (tm_1 _ (List.mem_of_getElem? (i := 18) (by decide +kernel))) rfl
theorem tw_97 : Cond.methodLink RX4 9 yX0_init ∈ lw_g := tg (tm_1 _ (List.mem_of_getElem? (i := 19) (by decide +kernel))) rfl
theorem tw_98 : Cond.instanceMethod yX0_init ∈ lw_g := tg (tm_1 _ (List.mem_of_getElem? (i := 20) (by decide +kernel))) rfl
theorem tw_99 : Cond.code yX0_init cX0_init 2 (none) ∈ lw_g := tg (tm_1 _ (List.mem_of_getElem? (i := 21) (by decide +kernel))) rfl
theorem tw_100 : Cond.methodLink RX0 3 objectInit ∈ lw_g := tg (tm_1 _ (List.mem_of_getElem? (i := 22) (by decide +kernel))) rfl
theorem tw_101 : Cond.fieldLink RX0 9 "TakesWhatItLacks$Harbour" "there" "[I" ∈ lw_g := tg (tm_1 _ (List.mem_of_getElem? (i := 23) (by decide +kernel))) rfl
theorem tw_102 : Cond.fieldLink RX4 91 "TakesWhatItLacks$Harbour" "there" "[I" ∈ lw_g := tg (tm_1 _ (List.mem_of_getElem? (i := 24) (by decide +kernel))) rfl
theorem tw_103 : Cond.fieldLink RX3 88 "TakesWhatItLacks$Harbour" "there" "[I" ∈ lw_g := tg (tm_1 _ (List.mem_of_getElem? (i := 25) (by decide +kernel))) rfl
theorem tw_104 : Cond.fieldLink RX0 15 "TakesWhatItLacks$Harbour" "used" "[I" ∈ lw_g := tg (tm_1 _ (List.mem_of_getElem? (i := 26) (by decide +kernel))) rfl
theorem tw_105 : Cond.fieldLink RX4 94 "TakesWhatItLacks$Harbour" "used" "[I" ∈ lw_g := tg (tm_1 _ (List.mem_of_getElem? (i := 27) (by decide +kernel))) rfl
theorem tw_106 : Cond.fieldLink RX3 92 "TakesWhatItLacks$Harbour" "used" "[I" ∈ lw_g := tg (tm_1 _ (List.mem_of_getElem? (i := 28) (by decide +kernel))) rfl
theorem tw_107 : Cond.fieldLink RX0 18 "TakesWhatItLacks$Harbour" "hidden" "[I" ∈ lw_g := tg (tm_1 _ (List.mem_of_getElem? (i := 29) (by decide +kernel))) rfl
theorem tw_108 : Cond.fieldLink RX4 97 "TakesWhatItLacks$Harbour" "hidden" "[I" ∈ lw_g := tg (tm_1 _ (List.mem_of_getElem? (i := 30) (by decide +kernel))) rfl
theorem tw_109 : Cond.fieldLink RX0 21 "TakesWhatItLacks$Harbour" "kind" "[I" ∈ lw_g := tg (tm_1 _ (List.mem_of_getElem? (i := 31) (by decide +kernel))) rfl
theorem tw_110 : Cond.fieldLink RX4 106 "TakesWhatItLacks$Harbour" "kind" "[I" ∈ lw_g := tg (tm_1 _ (List.mem_of_getElem? (i := 32) (by decide +kernel))) rfl
theorem tw_111 : Cond.fieldLink RX0 24 "TakesWhatItLacks$Harbour" "figure" "[I" ∈ lw_g := tg (tm_1 _ (List.mem_of_getElem? (i := 33) (by decide +kernel))) rfl
theorem tw_112 : Cond.fieldLink RX4 109 "TakesWhatItLacks$Harbour" "figure" "[I" ∈ lw_g := tg (tm_1 _ (List.mem_of_getElem? (i := 34) (by decide +kernel))) rfl
theorem tw_113 : Cond.fieldLink RX0 27 "TakesWhatItLacks$Harbour" "cargo" "[I" ∈ lw_g := tg (tm_1 _ (List.mem_of_getElem? (i := 35) (by decide +kernel))) rfl
theorem tw_114 : Cond.fieldLink RX4 112 "TakesWhatItLacks$Harbour" "cargo" "[I" ∈ lw_g := tg (tm_1 _ (List.mem_of_getElem? (i := 36) (by decide +kernel))) rfl
theorem tw_115 : Cond.fieldLink RX0 30 "TakesWhatItLacks$Harbour" "load" "[I" ∈ lw_g := tg (tm_1 _ (List.mem_of_getElem? (i := 37) (by decide +kernel))) rfl
theorem tw_116 : Cond.fieldLink RX4 115 "TakesWhatItLacks$Harbour" "load" "[I" ∈ lw_g := tg (tm_1 _ (List.mem_of_getElem? (i := 38) (by decide +kernel))) rfl
theorem tw_117 : Cond.fieldLink RX0 33 "TakesWhatItLacks$Harbour" "ships" "I" ∈ lw_g := tg (tm_1 _ (List.mem_of_getElem? (i := 39) (by decide +kernel))) rfl
theorem tw_118 : Cond.fieldLink RX4 141 "TakesWhatItLacks$Harbour" "ships" "I" ∈ lw_g := tg (tm_1 _ (List.mem_of_getElem? (i := 40) (by decide +kernel))) rfl
theorem tw_119 : Cond.fieldLink RX3 52 "TakesWhatItLacks$Harbour" "ships" "I" ∈ lw_g := tg (tm_1 _ (List.mem_of_getElem? (i := 41) (by decide +kernel))) rfl
theorem tw_120 : Cond.fieldLink RX0 37 "TakesWhatItLacks$Harbour" "in" "I" ∈ lw_g := tg (tm_1 _ (List.mem_of_getElem? (i := 42) (by decide +kernel))) rfl
theorem tw_121 : Cond.fieldLink RX4 165 "TakesWhatItLacks$Harbour" "in" "I" ∈ lw_g := tg (tm_1 _ (List.mem_of_getElem? (i := 43) (by decide +kernel))) rfl
theorem tw_122 : Cond.fieldLink RX0 40 "TakesWhatItLacks$Harbour" "coughs" "I" ∈ lw_g := tg (tm_1 _ (List.mem_of_getElem? (i := 44) (by decide +kernel))) rfl
theorem tw_123 : Cond.fieldLink RX3 102 "TakesWhatItLacks$Harbour" "coughs" "I" ∈ lw_g := tg (tm_1 _ (List.mem_of_getElem? (i := 45) (by decide +kernel))) rfl
theorem tw_124 : Cond.fieldLink RX4 179 "TakesWhatItLacks$Harbour" "coughs" "I" ∈ lw_g := tg (tm_1 _ (List.mem_of_getElem? (i := 46) (by decide +kernel))) rfl
theorem tw_125 : Cond.fieldLink RX0 43 "TakesWhatItLacks$Harbour" "day" "I" ∈ lw_g := tg (tm_1 _ (List.mem_of_getElem? (i := 47) (by decide +kernel))) rfl
theorem tw_126 : Cond.fieldLink RX4 134 "TakesWhatItLacks$Harbour" "day" "I" ∈ lw_g := tg (tm_1 _ (List.mem_of_getElem? (i := 48) (by decide +kernel))) rfl
theorem tw_127 : Cond.fieldLink RX3 71 "TakesWhatItLacks$Harbour" "day" "I" ∈ lw_g := tg (tm_1 _ (List.mem_of_getElem? (i := 49) (by decide +kernel))) rfl
theorem tw_128 : Cond.laysFinal RX0 "TakesWhatItLacks$Harbour" "there" "[I" ∈ lw_g := tg (tm_1 _ (List.mem_of_getElem? (i := 50) (by decide +kernel))) rfl
theorem tw_130 : Cond.laysFinal RX0 "TakesWhatItLacks$Harbour" "used" "[I" ∈ lw_g := tg (tm_1 _ (List.mem_of_getElem? (i := 52) (by decide +kernel))) rfl
theorem tw_132 : Cond.laysFinal RX0 "TakesWhatItLacks$Harbour" "hidden" "[I" ∈ lw_g := tg (tm_1 _ (List.mem_of_getElem? (i := 54) (by decide +kernel))) rfl
theorem tw_134 : Cond.laysFinal RX0 "TakesWhatItLacks$Harbour" "kind" "[I" ∈ lw_g := tg (tm_1 _ (List.mem_of_getElem? (i := 56) (by decide +kernel))) rfl
theorem tw_136 : Cond.laysFinal RX0 "TakesWhatItLacks$Harbour" "figure" "[I" ∈ lw_g := tg (tm_1 _ (List.mem_of_getElem? (i := 58) (by decide +kernel))) rfl
theorem tw_138 : Cond.laysFinal RX0 "TakesWhatItLacks$Harbour" "cargo" "[I" ∈ lw_g := tg (tm_1 _ (List.mem_of_getElem? (i := 60) (by decide +kernel))) rfl
theorem tw_140 : Cond.laysFinal RX0 "TakesWhatItLacks$Harbour" "load" "[I" ∈ lw_g := tg (tm_1 _ (List.mem_of_getElem? (i := 62) (by decide +kernel))) rfl
theorem tw_142 : Cond.lays RX0 "TakesWhatItLacks$Harbour" "ships" "I" ∈ lw_g := tg (tm_1 _ (List.mem_of_getElem? (i := 64) (by decide +kernel))) rfl
theorem tw_144 : Cond.lays RX0 "TakesWhatItLacks$Harbour" "in" "I" ∈ lw_g := tg (tm_1 _ (List.mem_of_getElem? (i := 66) (by decide +kernel))) rfl
theorem tw_146 : Cond.lays RX0 "TakesWhatItLacks$Harbour" "coughs" "I" ∈ lw_g := tg (tm_1 _ (List.mem_of_getElem? (i := 68) (by decide +kernel))) rfl
theorem tw_148 : Cond.lays RX0 "TakesWhatItLacks$Harbour" "day" "I" ∈ lw_g := tg (tm_1 _ (List.mem_of_getElem? (i := 70) (by decide +kernel))) rfl
theorem tw_151 : (Jvm.Cond.arrayClass Jvm.ClassFile.FieldType.int) ∈ lw_g := tg (tm_1 _ (List.mem_of_getElem? (i := 73) (by decide +kernel))) rfl
theorem tw_152 : Cond.classLink RX4 22 RX2 ∈ lw_g := tg (tm_1 _ (List.mem_of_getElem? (i := 74) (by decide +kernel))) rfl
theorem tw_153 : Cond.instantiable RX2 2 ∈ lw_g := tg (tm_1 _ (List.mem_of_getElem? (i := 75) (by decide +kernel))) rfl
theorem tw_154 : Cond.methodLink RX4 24 yX2_init ∈ lw_g := tg (tm_1 _ (List.mem_of_getElem? (i := 76) (by decide +kernel))) rfl
theorem tw_155 : Cond.instanceMethod yX2_init ∈ lw_g := tg (tm_1 _ (List.mem_of_getElem? (i := 77) (by decide +kernel))) rfl
theorem tw_156 : Cond.code yX2_init cX2_init 2 (none) ∈ lw_g := tg (tm_1 _ (List.mem_of_getElem? (i := 78) (by decide +kernel))) rfl
theorem tw_157 : Cond.methodLink RX2 3 objectInit ∈ lw_g := tg (tm_1 _ (List.mem_of_getElem? (i := 79) (by decide +kernel))) rfl
theorem tw_158 : Cond.classLink RX2 9 RX0 ∈ lw_g := tg (tm_1 _ (List.mem_of_getElem? (i := 80) (by decide +kernel))) rfl
theorem tw_159 : (Jvm.Cond.arrayOver (Jvm.ClassFile.FieldType.object "TakesWhatItLacks$Harbour")) ∈ lw_tbl := tm_1 _ (List.mem_of_getElem? (i := 81) (by decide +kernel))
theorem tw_160 : Cond.methodLink RX2 17 yX0_init ∈ lw_g := tg (tm_1 _ (List.mem_of_getElem? (i := 82) (by decide +kernel))) rfl
theorem tw_161 : Cond.fieldLink RX2 11 "TakesWhatItLacks$Past" "rows" "[LTakesWhatItLacks$Harbour;" ∈ lw_g := tg (tm_1 _ (List.mem_of_getElem? (i := 83) (by decide +kernel))) rfl
theorem tw_162 : Cond.fieldLink RX2 18 "TakesWhatItLacks$Past" "held" "I" ∈ lw_g := tg (tm_1 _ (List.mem_of_getElem? (i := 84) (by decide +kernel))) rfl
theorem tw_163 : Cond.laysFinal RX2 "TakesWhatItLacks$Past" "rows" "[LTakesWhatItLacks$Harbour;" ∈ lw_g := tg (tm_1 _ (List.mem_of_getElem? (i := 85) (by decide +kernel))) rfl
theorem tw_165 : Cond.lays RX2 "TakesWhatItLacks$Past" "held" "I" ∈ lw_g := tg (tm_1 _ (List.mem_of_getElem? (i := 87) (by decide +kernel))) rfl
theorem tw_168 : Cond.classLink RX4 29 RX3 ∈ lw_g := tg (tm_1 _ (List.mem_of_getElem? (i := 90) (by decide +kernel))) rfl
theorem tw_169 : Cond.instantiable RX3 1 ∈ lw_g := tg (tm_1 _ (List.mem_of_getElem? (i := 91) (by decide +kernel))) rfl
theorem tw_170 : (Jvm.Cond.methodLinkNest "TakesWhatItLacks" (31 : Nat) ({ cls := "TakesWhatItLacks$Text", name := "<init>", desc := "()V" } : Jvm.MethodName) "TakesWhatItLacks") ∈ lw_tbl := tm_1 _ (List.mem_of_getElem? (i := 92) (by decide +kernel))
theorem tw_171 : Cond.instanceMethod yX3_init ∈ lw_g := tg (tm_1 _ (List.mem_of_getElem? (i := 93) (by decide +kernel))) rfl
theorem tw_172 : Cond.code yX3_init cX3_init 1 (none) ∈ lw_g := tg (tm_1 _ (List.mem_of_getElem? (i := 94) (by decide +kernel))) rfl
theorem tw_173 : Cond.methodLink RX3 3 objectInit ∈ lw_g := tg (tm_1 _ (List.mem_of_getElem? (i := 95) (by decide +kernel))) rfl
theorem tw_174 : Cond.classLink RX3 9 RX1 ∈ lw_g := tg (tm_1 _ (List.mem_of_getElem? (i := 96) (by decide +kernel))) rfl
theorem tw_175 : Cond.instantiable RX1 2 ∈ lw_g := tg (tm_1 _ (List.mem_of_getElem? (i := 97) (by decide +kernel))) rfl
theorem tw_176 : Cond.methodLink RX3 11 yX1_init ∈ lw_g := tg (tm_1 _ (List.mem_of_getElem? (i := 98) (by decide +kernel))) rfl
theorem tw_177 : Cond.instanceMethod yX1_init ∈ lw_g := tg (tm_1 _ (List.mem_of_getElem? (i := 99) (by decide +kernel))) rfl
theorem tw_178 : Cond.code yX1_init cX1_init 2 (none) ∈ lw_g := tg (tm_1 _ (List.mem_of_getElem? (i := 100) (by decide +kernel))) rfl
theorem tw_179 : Cond.methodLink RX1 1 objectInit ∈ lw_g := tg (tm_1 _ (List.mem_of_getElem? (i := 101) (by decide +kernel))) rfl
theorem tw_180 : Cond.methodLink RX1 7 Lib.Math.max.name ∈ lw_g := tg (tm_1 _ (List.mem_of_getElem? (i := 102) (by decide +kernel))) rfl
theorem tw_181 : Cond.static Lib.Math.max.name ∈ lw_g := tg (tm_1 _ (List.mem_of_getElem? (i := 103) (by decide +kernel))) rfl
theorem tw_182 : Cond.code Lib.Math.max.name Lib.Math.max.code 2 (some .int) ∈ lw_g := tg (tm_1 _ (List.mem_of_getElem? (i := 104) (by decide +kernel))) rfl
theorem tw_183 : Cond.fieldLink RX1 13 "TakesWhatItLacks$Numbers" "cells" "[I" ∈ lw_g := tg (tm_1 _ (List.mem_of_getElem? (i := 105) (by decide +kernel))) rfl
theorem tw_184 : Cond.fieldLink RX1 19 "TakesWhatItLacks$Numbers" "length" "I" ∈ lw_g := tg (tm_1 _ (List.mem_of_getElem? (i := 106) (by decide +kernel))) rfl
theorem tw_185 : Cond.laysFinal RX1 "TakesWhatItLacks$Numbers" "cells" "[I" ∈ lw_g := tg (tm_1 _ (List.mem_of_getElem? (i := 107) (by decide +kernel))) rfl
theorem tw_187 : Cond.lays RX1 "TakesWhatItLacks$Numbers" "length" "I" ∈ lw_g := tg (tm_1 _ (List.mem_of_getElem? (i := 109) (by decide +kernel))) rfl
theorem tw_190 : Cond.fieldLink RX3 14 "TakesWhatItLacks$Text" "letters" "LTakesWhatItLacks$Numbers;" ∈ lw_g := tg (tm_1 _ (List.mem_of_getElem? (i := 112) (by decide +kernel))) rfl
theorem tw_191 : Cond.fieldLink RX4 57 "TakesWhatItLacks$Text" "letters" "LTakesWhatItLacks$Numbers;" ∈ lw_g := tg (tm_1 _ (List.mem_of_getElem? (i := 113) (by decide +kernel))) rfl
theorem tw_192 : Cond.laysFinal RX3 "TakesWhatItLacks$Text" "letters" "LTakesWhatItLacks$Numbers;" ∈ lw_g := tg (tm_1 _ (List.mem_of_getElem? (i := 114) (by decide +kernel))) rfl
theorem tw_195 : Cond.classLink RX4 36 RX1 ∈ lw_g := tg (tm_1 _ (List.mem_of_getElem? (i := 117) (by decide +kernel))) rfl
theorem tw_196 : Cond.methodLink RX4 38 yX1_init ∈ lw_g := tg (tm_1 _ (List.mem_of_getElem? (i := 118) (by decide +kernel))) rfl
theorem tw_197 : Cond.fieldLink RX4 10 "TakesWhatItLacks" "now" "LTakesWhatItLacks$Harbour;" ∈ lw_g := tg (tm_1 _ (List.mem_of_getElem? (i := 119) (by decide +kernel))) rfl
theorem tw_198 : Cond.fieldLink RX4 16 "TakesWhatItLacks" "mind" "LTakesWhatItLacks$Harbour;" ∈ lw_g := tg (tm_1 _ (List.mem_of_getElem? (i := 120) (by decide +kernel))) rfl
theorem tw_199 : Cond.fieldLink RX4 19 "TakesWhatItLacks" "kept" "LTakesWhatItLacks$Harbour;" ∈ lw_g := tg (tm_1 _ (List.mem_of_getElem? (i := 121) (by decide +kernel))) rfl
theorem tw_200 : Cond.fieldLink RX4 25 "TakesWhatItLacks" "past" "LTakesWhatItLacks$Past;" ∈ lw_g := tg (tm_1 _ (List.mem_of_getElem? (i := 122) (by decide +kernel))) rfl
theorem tw_201 : Cond.fieldLink RX4 32 "TakesWhatItLacks" "text" "LTakesWhatItLacks$Text;" ∈ lw_g := tg (tm_1 _ (List.mem_of_getElem? (i := 123) (by decide +kernel))) rfl
theorem tw_202 : Cond.fieldLink RX4 41 "TakesWhatItLacks" "told" "LTakesWhatItLacks$Numbers;" ∈ lw_g := tg (tm_1 _ (List.mem_of_getElem? (i := 124) (by decide +kernel))) rfl
theorem tw_203 : Cond.fieldLink RX4 45 "TakesWhatItLacks" "refusals" "[I" ∈ lw_g := tg (tm_1 _ (List.mem_of_getElem? (i := 125) (by decide +kernel))) rfl
theorem tw_204 : Cond.fieldLink RX4 49 "TakesWhatItLacks" "isKept" "Z" ∈ lw_g := tg (tm_1 _ (List.mem_of_getElem? (i := 126) (by decide +kernel))) rfl
theorem tw_205 : Cond.laysFinal RX4 "TakesWhatItLacks" "now" "LTakesWhatItLacks$Harbour;" ∈ lw_g := tg (tm_1 _ (List.mem_of_getElem? (i := 127) (by decide +kernel))) rfl
theorem tw_207 : Cond.laysFinal RX4 "TakesWhatItLacks" "mind" "LTakesWhatItLacks$Harbour;" ∈ lw_g := tg (tm_1 _ (List.mem_of_getElem? (i := 129) (by decide +kernel))) rfl
theorem tw_209 : Cond.laysFinal RX4 "TakesWhatItLacks" "kept" "LTakesWhatItLacks$Harbour;" ∈ lw_g := tg (tm_1 _ (List.mem_of_getElem? (i := 131) (by decide +kernel))) rfl
theorem tw_211 : Cond.laysFinal RX4 "TakesWhatItLacks" "past" "LTakesWhatItLacks$Past;" ∈ lw_g := tg (tm_1 _ (List.mem_of_getElem? (i := 133) (by decide +kernel))) rfl
theorem tw_213 : Cond.laysFinal RX4 "TakesWhatItLacks" "text" "LTakesWhatItLacks$Text;" ∈ lw_g := tg (tm_1 _ (List.mem_of_getElem? (i := 135) (by decide +kernel))) rfl
theorem tw_215 : Cond.laysFinal RX4 "TakesWhatItLacks" "told" "LTakesWhatItLacks$Numbers;" ∈ lw_g := tg (tm_1 _ (List.mem_of_getElem? (i := 137) (by decide +kernel))) rfl
theorem tw_217 : Cond.laysFinal RX4 "TakesWhatItLacks" "refusals" "[I" ∈ lw_g := tg (tm_1 _ (List.mem_of_getElem? (i := 139) (by decide +kernel))) rfl
theorem tw_219 : Cond.lays RX4 "TakesWhatItLacks" "isKept" "Z" ∈ lw_g := tg (tm_1 _ (List.mem_of_getElem? (i := 141) (by decide +kernel))) rfl
theorem tw_222 : Cond.methodLink RL 13 yX4_feed ∈ lw_g := tg (tm_1 _ (List.mem_of_getElem? (i := 144) (by decide +kernel))) rfl
theorem tw_223 : Cond.instanceMethod yX4_feed ∈ lw_g := tg (tm_1 _ (List.mem_of_getElem? (i := 145) (by decide +kernel))) rfl
theorem tw_224 : Cond.selects RX4 yX4_feed yX4_feed ∈ lw_g := tg (tm_1 _ (List.mem_of_getElem? (i := 146) (by decide +kernel))) rfl
theorem tw_225 : Cond.code yX4_feed cX4_feed 2 (some .int) ∈ lw_g := tg (tm_1 _ (List.mem_of_getElem? (i := 147) (by decide +kernel))) rfl
theorem tw_226 : Cond.methodLink RX4 53 yX4_refuse ∈ lw_g := tg (tm_1 _ (List.mem_of_getElem? (i := 148) (by decide +kernel))) rfl
theorem tw_228 : Cond.instanceMethod yX4_refuse ∈ lw_g := tg (tm_1 _ (List.mem_of_getElem? (i := 150) (by decide +kernel))) rfl
theorem tw_229 : Cond.code yX4_refuse cX4_refuse 3 (some .int) ∈ lw_g := tg (tm_1 _ (List.mem_of_getElem? (i := 151) (by decide +kernel))) rfl
theorem tw_230 : Cond.methodLink RX4 60 yX1_isFull ∈ lw_g := tg (tm_1 _ (List.mem_of_getElem? (i := 152) (by decide +kernel))) rfl
theorem tw_231 : Cond.instanceMethod yX1_isFull ∈ lw_g := tg (tm_1 _ (List.mem_of_getElem? (i := 153) (by decide +kernel))) rfl
theorem tw_232 : Cond.selects RX1 yX1_isFull yX1_isFull ∈ lw_g := tg (tm_1 _ (List.mem_of_getElem? (i := 154) (by decide +kernel))) rfl
theorem tw_233 : Cond.code yX1_isFull cX1_isFull 1 (some .boolean) ∈ lw_g := tg (tm_1 _ (List.mem_of_getElem? (i := 155) (by decide +kernel))) rfl
theorem tw_234 : Cond.methodLink RX4 64 yX1_add ∈ lw_g := tg (tm_1 _ (List.mem_of_getElem? (i := 156) (by decide +kernel))) rfl
theorem tw_235 : Cond.instanceMethod yX1_add ∈ lw_g := tg (tm_1 _ (List.mem_of_getElem? (i := 157) (by decide +kernel))) rfl
theorem tw_236 : Cond.selects RX1 yX1_add yX1_add ∈ lw_g := tg (tm_1 _ (List.mem_of_getElem? (i := 158) (by decide +kernel))) rfl
theorem tw_237 : Cond.code yX1_add cX1_add 2 (none) ∈ lw_g := tg (tm_1 _ (List.mem_of_getElem? (i := 159) (by decide +kernel))) rfl
theorem tw_238 : Cond.methodLink RX4 67 yX1_length ∈ lw_g := tg (tm_1 _ (List.mem_of_getElem? (i := 160) (by decide +kernel))) rfl
theorem tw_239 : Cond.instanceMethod yX1_length ∈ lw_g := tg (tm_1 _ (List.mem_of_getElem? (i := 161) (by decide +kernel))) rfl
theorem tw_240 : Cond.selects RX1 yX1_length yX1_length ∈ lw_g := tg (tm_1 _ (List.mem_of_getElem? (i := 162) (by decide +kernel))) rfl
theorem tw_241 : Cond.code yX1_length cX1_length 1 (some .int) ∈ lw_g := tg (tm_1 _ (List.mem_of_getElem? (i := 163) (by decide +kernel))) rfl
theorem tw_242 : Cond.methodLink RL 18 yX4_harbour ∈ lw_g := tg (tm_1 _ (List.mem_of_getElem? (i := 164) (by decide +kernel))) rfl
theorem tw_243 : Cond.instanceMethod yX4_harbour ∈ lw_g := tg (tm_1 _ (List.mem_of_getElem? (i := 165) (by decide +kernel))) rfl
theorem tw_244 : Cond.selects RX4 yX4_harbour yX4_harbour ∈ lw_g := tg (tm_1 _ (List.mem_of_getElem? (i := 166) (by decide +kernel))) rfl
theorem tw_245 : Cond.code yX4_harbour cX4_harbour 2 (some .int) ∈ lw_g := tg (tm_1 _ (List.mem_of_getElem? (i := 167) (by decide +kernel))) rfl
theorem tw_246 : Cond.methodLink RX4 71 yX4_fromNow ∈ lw_g := tg (tm_1 _ (List.mem_of_getElem? (i := 168) (by decide +kernel))) rfl
theorem tw_248 : Cond.instanceMethod yX4_fromNow ∈ lw_g := tg (tm_1 _ (List.mem_of_getElem? (i := 170) (by decide +kernel))) rfl
theorem tw_249 : Cond.code yX4_fromNow cX4_fromNow 1 (some (.object "TakesWhatItLacks$Harbour")) ∈ lw_g := tg (tm_1 _ (List.mem_of_getElem? (i := 171) (by decide +kernel))) rfl
theorem tw_250 : Cond.methodLink RX4 82 yX0_copyFrom ∈ lw_g := tg (tm_1 _ (List.mem_of_getElem? (i := 172) (by decide +kernel))) rfl
theorem tw_251 : Cond.instanceMethod yX0_copyFrom ∈ lw_g := tg (tm_1 _ (List.mem_of_getElem? (i := 173) (by decide +kernel))) rfl
theorem tw_252 : Cond.selects RX0 yX0_copyFrom yX0_copyFrom ∈ lw_g := tg (tm_1 _ (List.mem_of_getElem? (i := 174) (by decide +kernel))) rfl
theorem tw_253 : Cond.code yX0_copyFrom cX0_copyFrom 3 (none) ∈ lw_g := tg (tm_1 _ (List.mem_of_getElem? (i := 175) (by decide +kernel))) rfl
theorem tw_254 : Cond.methodLink RX4 75 yX3_tell ∈ lw_g := tg (tm_1 _ (List.mem_of_getElem? (i := 176) (by decide +kernel))) rfl
theorem tw_255 : Cond.instanceMethod yX3_tell ∈ lw_g := tg (tm_1 _ (List.mem_of_getElem? (i := 177) (by decide +kernel))) rfl
theorem tw_256 : Cond.selects RX3 yX3_tell yX3_tell ∈ lw_g := tg (tm_1 _ (List.mem_of_getElem? (i := 178) (by decide +kernel))) rfl
theorem tw_257 : Cond.code yX3_tell cX3_tell 5 (some .int) ∈ lw_g := tg (tm_1 _ (List.mem_of_getElem? (i := 179) (by decide +kernel))) rfl
theorem tw_258 : Cond.methodLink RX3 20 yX3_faultyLetter ∈ lw_g := tg (tm_1 _ (List.mem_of_getElem? (i := 180) (by decide +kernel))) rfl
theorem tw_260 : Cond.instanceMethod yX3_faultyLetter ∈ lw_g := tg (tm_1 _ (List.mem_of_getElem? (i := 182) (by decide +kernel))) rfl
theorem tw_261 : Cond.code yX3_faultyLetter cX3_faultyLetter 4 (some .int) ∈ lw_g := tg (tm_1 _ (List.mem_of_getElem? (i := 183) (by decide +kernel))) rfl
theorem tw_262 : Cond.methodLink RX3 24 yX1_length ∈ lw_g := tg (tm_1 _ (List.mem_of_getElem? (i := 184) (by decide +kernel))) rfl
theorem tw_263 : Cond.methodLink RX3 42 yX3_faultyLetterFrom ∈ lw_g := tg (tm_1 _ (List.mem_of_getElem? (i := 185) (by decide +kernel))) rfl
theorem tw_265 : Cond.instanceMethod yX3_faultyLetterFrom ∈ lw_g := tg (tm_1 _ (List.mem_of_getElem? (i := 187) (by decide +kernel))) rfl
theorem tw_266 : Cond.code yX3_faultyLetterFrom cX3_faultyLetterFrom 5 (some .int) ∈ lw_g := tg (tm_1 _ (List.mem_of_getElem? (i := 188) (by decide +kernel))) rfl
theorem tw_267 : Cond.methodLink RX3 35 yX1_at ∈ lw_g := tg (tm_1 _ (List.mem_of_getElem? (i := 189) (by decide +kernel))) rfl
theorem tw_268 : Cond.instanceMethod yX1_at ∈ lw_g := tg (tm_1 _ (List.mem_of_getElem? (i := 190) (by decide +kernel))) rfl
theorem tw_269 : Cond.selects RX1 yX1_at yX1_at ∈ lw_g := tg (tm_1 _ (List.mem_of_getElem? (i := 191) (by decide +kernel))) rfl
theorem tw_270 : Cond.code yX1_at cX1_at 2 (some .int) ∈ lw_g := tg (tm_1 _ (List.mem_of_getElem? (i := 192) (by decide +kernel))) rfl
theorem tw_271 : Cond.methodLink RX3 39 yX3_sizeOf ∈ lw_g := tg (tm_1 _ (List.mem_of_getElem? (i := 193) (by decide +kernel))) rfl
theorem tw_272 : Cond.static yX3_sizeOf ∈ lw_g := tg (tm_1 _ (List.mem_of_getElem? (i := 194) (by decide +kernel))) rfl
theorem tw_273 : Cond.code yX3_sizeOf cX3_sizeOf 1 (some .int) ∈ lw_g := tg (tm_1 _ (List.mem_of_getElem? (i := 195) (by decide +kernel))) rfl
theorem tw_274 : Cond.methodLink RX3 45 yX3_digit ∈ lw_g := tg (tm_1 _ (List.mem_of_getElem? (i := 196) (by decide +kernel))) rfl
theorem tw_276 : Cond.instanceMethod yX3_digit ∈ lw_g := tg (tm_1 _ (List.mem_of_getElem? (i := 198) (by decide +kernel))) rfl
theorem tw_277 : Cond.code yX3_digit cX3_digit 3 (some .int) ∈ lw_g := tg (tm_1 _ (List.mem_of_getElem? (i := 199) (by decide +kernel))) rfl
theorem tw_278 : Cond.methodLink RX3 27 yX3_isAsItMustBe ∈ lw_g := tg (tm_1 _ (List.mem_of_getElem? (i := 200) (by decide +kernel))) rfl
theorem tw_280 : Cond.instanceMethod yX3_isAsItMustBe ∈ lw_g := tg (tm_1 _ (List.mem_of_getElem? (i := 202) (by decide +kernel))) rfl
theorem tw_281 : Cond.code yX3_isAsItMustBe cX3_isAsItMustBe 4 (some .boolean) ∈ lw_g := tg (tm_1 _ (List.mem_of_getElem? (i := 203) (by decide +kernel))) rfl
theorem tw_282 : (Jvm.Cond.methodLinkNest "TakesWhatItLacks$Text" (48 : Nat) ({ cls := "TakesWhatItLacks", name := "isGood", desc := "(I)Z" } : Jvm.MethodName) "TakesWhatItLacks") ∈ lw_tbl := tm_1 _ (List.mem_of_getElem? (i := 204) (by decide +kernel))
theorem tw_283 : Cond.static yX4_isGood ∈ lw_g := tg (tm_1 _ (List.mem_of_getElem? (i := 205) (by decide +kernel))) rfl
theorem tw_284 : Cond.code yX4_isGood cX4_isGood 1 (some .boolean) ∈ lw_g := tg (tm_1 _ (List.mem_of_getElem? (i := 206) (by decide +kernel))) rfl
theorem tw_285 : Cond.methodLink RX3 58 yX3_twoDigits ∈ lw_g := tg (tm_1 _ (List.mem_of_getElem? (i := 207) (by decide +kernel))) rfl
theorem tw_287 : Cond.instanceMethod yX3_twoDigits ∈ lw_g := tg (tm_1 _ (List.mem_of_getElem? (i := 209) (by decide +kernel))) rfl
theorem tw_288 : Cond.code yX3_twoDigits cX3_twoDigits 2 (some .int) ∈ lw_g := tg (tm_1 _ (List.mem_of_getElem? (i := 210) (by decide +kernel))) rfl
theorem tw_289 : Cond.methodLink RX3 61 yX0_canHide ∈ lw_g := tg (tm_1 _ (List.mem_of_getElem? (i := 211) (by decide +kernel))) rfl
theorem tw_290 : Cond.instanceMethod yX0_canHide ∈ lw_g := tg (tm_1 _ (List.mem_of_getElem? (i := 212) (by decide +kernel))) rfl
theorem tw_291 : Cond.selects RX0 yX0_canHide yX0_canHide ∈ lw_g := tg (tm_1 _ (List.mem_of_getElem? (i := 213) (by decide +kernel))) rfl
theorem tw_292 : Cond.code yX0_canHide cX0_canHide 3 (some .boolean) ∈ lw_g := tg (tm_1 _ (List.mem_of_getElem? (i := 214) (by decide +kernel))) rfl
theorem tw_293 : Cond.methodLink RX3 65 yX0_isShip ∈ lw_g := tg (tm_1 _ (List.mem_of_getElem? (i := 215) (by decide +kernel))) rfl
theorem tw_294 : Cond.instanceMethod yX0_isShip ∈ lw_g := tg (tm_1 _ (List.mem_of_getElem? (i := 216) (by decide +kernel))) rfl
theorem tw_295 : Cond.selects RX0 yX0_isShip yX0_isShip ∈ lw_g := tg (tm_1 _ (List.mem_of_getElem? (i := 217) (by decide +kernel))) rfl
theorem tw_296 : Cond.code yX0_isShip cX0_isShip 2 (some .boolean) ∈ lw_g := tg (tm_1 _ (List.mem_of_getElem? (i := 218) (by decide +kernel))) rfl
theorem tw_297 : Cond.methodLink RX3 68 yX0_isIn ∈ lw_g := tg (tm_1 _ (List.mem_of_getElem? (i := 219) (by decide +kernel))) rfl
theorem tw_298 : Cond.instanceMethod yX0_isIn ∈ lw_g := tg (tm_1 _ (List.mem_of_getElem? (i := 220) (by decide +kernel))) rfl
theorem tw_299 : Cond.selects RX0 yX0_isIn yX0_isIn ∈ lw_g := tg (tm_1 _ (List.mem_of_getElem? (i := 221) (by decide +kernel))) rfl
theorem tw_300 : Cond.code yX0_isIn cX0_isIn 2 (some .boolean) ∈ lw_g := tg (tm_1 _ (List.mem_of_getElem? (i := 222) (by decide +kernel))) rfl
theorem tw_301 : Cond.methodLink RX3 74 Lib.Math.min.name ∈ lw_g := tg (tm_1 _ (List.mem_of_getElem? (i := 223) (by decide +kernel))) rfl
theorem tw_302 : Cond.static Lib.Math.min.name ∈ lw_g := tg (tm_1 _ (List.mem_of_getElem? (i := 224) (by decide +kernel))) rfl
theorem tw_303 : Cond.code Lib.Math.min.name Lib.Math.min.code 2 (some .int) ∈ lw_g := tg (tm_1 _ (List.mem_of_getElem? (i := 225) (by decide +kernel))) rfl
theorem tw_304 : (Jvm.Cond.methodLinkNest "TakesWhatItLacks$Text" (80 : Nat) ({ cls := "TakesWhatItLacks", name := "misfit", desc := "(III)I" } : Jvm.MethodName) "TakesWhatItLacks") ∈ lw_tbl := tm_1 _ (List.mem_of_getElem? (i := 226) (by decide +kernel))
theorem tw_305 : Cond.static yX4_misfit ∈ lw_g := tg (tm_1 _ (List.mem_of_getElem? (i := 227) (by decide +kernel))) rfl
theorem tw_306 : Cond.code yX4_misfit cX4_misfit 3 (some .int) ∈ lw_g := tg (tm_1 _ (List.mem_of_getElem? (i := 228) (by decide +kernel))) rfl
theorem tw_307 : Cond.methodLink RX3 31 yX3_carryOut ∈ lw_g := tg (tm_1 _ (List.mem_of_getElem? (i := 229) (by decide +kernel))) rfl
theorem tw_309 : Cond.instanceMethod yX3_carryOut ∈ lw_g := tg (tm_1 _ (List.mem_of_getElem? (i := 231) (by decide +kernel))) rfl
theorem tw_310 : Cond.code yX3_carryOut cX3_carryOut 4 (none) ∈ lw_g := tg (tm_1 _ (List.mem_of_getElem? (i := 232) (by decide +kernel))) rfl
theorem tw_311 : Cond.methodLink RX3 84 yX0_addShip ∈ lw_g := tg (tm_1 _ (List.mem_of_getElem? (i := 233) (by decide +kernel))) rfl
theorem tw_312 : Cond.instanceMethod yX0_addShip ∈ lw_g := tg (tm_1 _ (List.mem_of_getElem? (i := 234) (by decide +kernel))) rfl
theorem tw_313 : Cond.selects RX0 yX0_addShip yX0_addShip ∈ lw_g := tg (tm_1 _ (List.mem_of_getElem? (i := 235) (by decide +kernel))) rfl
theorem tw_314 : Cond.code yX0_addShip cX0_addShip 5 (none) ∈ lw_g := tg (tm_1 _ (List.mem_of_getElem? (i := 236) (by decide +kernel))) rfl
theorem tw_315 : Cond.methodLink RX0 46 yX0_sendOut ∈ lw_g := tg (tm_1 _ (List.mem_of_getElem? (i := 237) (by decide +kernel))) rfl
theorem tw_316 : Cond.instanceMethod yX0_sendOut ∈ lw_g := tg (tm_1 _ (List.mem_of_getElem? (i := 238) (by decide +kernel))) rfl
theorem tw_317 : Cond.selects RX0 yX0_sendOut yX0_sendOut ∈ lw_g := tg (tm_1 _ (List.mem_of_getElem? (i := 239) (by decide +kernel))) rfl
theorem tw_318 : Cond.code yX0_sendOut cX0_sendOut 2 (none) ∈ lw_g := tg (tm_2 _ (List.mem_of_getElem? (i := 0) (by decide +kernel))) rfl
theorem tw_319 : Cond.methodLink RX3 95 yX0_hideAway ∈ lw_g := tg (tm_2 _ (List.mem_of_getElem? (i := 1) (by decide +kernel))) rfl
theorem tw_320 : Cond.instanceMethod yX0_hideAway ∈ lw_g := tg (tm_2 _ (List.mem_of_getElem? (i := 2) (by decide +kernel))) rfl
theorem tw_321 : Cond.selects RX0 yX0_hideAway yX0_hideAway ∈ lw_g := tg (tm_2 _ (List.mem_of_getElem? (i := 3) (by decide +kernel))) rfl
theorem tw_322 : Cond.code yX0_hideAway cX0_hideAway 3 (none) ∈ lw_g := tg (tm_2 _ (List.mem_of_getElem? (i := 4) (by decide +kernel))) rfl
theorem tw_323 : Cond.methodLink RX3 99 yX0_sendOut ∈ lw_g := tg (tm_2 _ (List.mem_of_getElem? (i := 5) (by decide +kernel))) rfl
theorem tw_324 : Cond.methodLink RX3 105 yX0_passDays ∈ lw_g := tg (tm_2 _ (List.mem_of_getElem? (i := 6) (by decide +kernel))) rfl
theorem tw_325 : Cond.instanceMethod yX0_passDays ∈ lw_g := tg (tm_2 _ (List.mem_of_getElem? (i := 7) (by decide +kernel))) rfl
theorem tw_326 : Cond.selects RX0 yX0_passDays yX0_passDays ∈ lw_g := tg (tm_2 _ (List.mem_of_getElem? (i := 8) (by decide +kernel))) rfl
theorem tw_327 : Cond.code yX0_passDays cX0_passDays 3 (none) ∈ lw_g := tg (tm_2 _ (List.mem_of_getElem? (i := 9) (by decide +kernel))) rfl
theorem tw_328 : Cond.methodLink RX0 92 yX0_passDay ∈ lw_g := tg (tm_2 _ (List.mem_of_getElem? (i := 10) (by decide +kernel))) rfl
theorem tw_329 : Cond.instanceMethod yX0_passDay ∈ lw_g := tg (tm_2 _ (List.mem_of_getElem? (i := 11) (by decide +kernel))) rfl
theorem tw_330 : Cond.selects RX0 yX0_passDay yX0_passDay ∈ lw_g := tg (tm_2 _ (List.mem_of_getElem? (i := 12) (by decide +kernel))) rfl
theorem tw_331 : Cond.code yX0_passDay cX0_passDay 4 (none) ∈ lw_g := tg (tm_2 _ (List.mem_of_getElem? (i := 13) (by decide +kernel))) rfl
theorem tw_332 : (Jvm.Cond.methodLinkNest "TakesWhatItLacks$Harbour" (64 : Nat) ({ cls := "TakesWhatItLacks", name := "tideOf", desc := "(I)I" } : Jvm.MethodName) "TakesWhatItLacks") ∈ lw_tbl := tm_2 _ (List.mem_of_getElem? (i := 14) (by decide +kernel))
theorem tw_333 : Cond.static yX4_tideOf ∈ lw_g := tg (tm_2 _ (List.mem_of_getElem? (i := 15) (by decide +kernel))) rfl
theorem tw_334 : Cond.code yX4_tideOf cX4_tideOf 1 (some .int) ∈ lw_g := tg (tm_2 _ (List.mem_of_getElem? (i := 16) (by decide +kernel))) rfl
theorem tw_335 : Cond.methodLink RX4 275 yJ9_floorMod_7cf53 ∈ lw_g := tg (tm_2 _ (List.mem_of_getElem? (i := 17) (by decide +kernel))) rfl
theorem tw_336 : Cond.static yJ9_floorMod_7cf53 ∈ lw_g := tg (tm_2 _ (List.mem_of_getElem? (i := 18) (by decide +kernel))) rfl
theorem tw_337 : Cond.code yJ9_floorMod_7cf53 cJ9_floorMod_7cf53 3 (some .int) ∈ lw_g := tg (tm_2 _ (List.mem_of_getElem? (i := 19) (by decide +kernel))) rfl
theorem tw_338 : Cond.methodLink RX4 278 Lib.Math.abs.name ∈ lw_g := tg (tm_2 _ (List.mem_of_getElem? (i := 20) (by decide +kernel))) rfl
theorem tw_339 : Cond.static Lib.Math.abs.name ∈ lw_g := tg (tm_2 _ (List.mem_of_getElem? (i := 21) (by decide +kernel))) rfl
theorem tw_340 : Cond.code Lib.Math.abs.name Lib.Math.abs.code 1 (some .int) ∈ lw_g := tg (tm_2 _ (List.mem_of_getElem? (i := 22) (by decide +kernel))) rfl
theorem tw_341 : Cond.methodLink RX0 82 yX0_isIn ∈ lw_g := tg (tm_2 _ (List.mem_of_getElem? (i := 23) (by decide +kernel))) rfl
theorem tw_342 : Cond.methodLink RX0 67 yX0_sinks ∈ lw_g := tg (tm_2 _ (List.mem_of_getElem? (i := 24) (by decide +kernel))) rfl
theorem tw_343 : Cond.instanceMethod yX0_sinks ∈ lw_g := tg (tm_2 _ (List.mem_of_getElem? (i := 25) (by decide +kernel))) rfl
theorem tw_344 : Cond.selects RX0 yX0_sinks yX0_sinks ∈ lw_g := tg (tm_2 _ (List.mem_of_getElem? (i := 26) (by decide +kernel))) rfl
theorem tw_345 : Cond.code yX0_sinks cX0_sinks 3 (some .int) ∈ lw_g := tg (tm_2 _ (List.mem_of_getElem? (i := 27) (by decide +kernel))) rfl
theorem tw_346 : Cond.methodLink RX0 54 yX0_notLacked ∈ lw_g := tg (tm_2 _ (List.mem_of_getElem? (i := 28) (by decide +kernel))) rfl
theorem tw_347 : Cond.instanceMethod yX0_notLacked ∈ lw_g := tg (tm_2 _ (List.mem_of_getElem? (i := 29) (by decide +kernel))) rfl
theorem tw_348 : Cond.selects RX0 yX0_notLacked yX0_notLacked ∈ lw_g := tg (tm_2 _ (List.mem_of_getElem? (i := 30) (by decide +kernel))) rfl
theorem tw_349 : Cond.code yX0_notLacked cX0_notLacked 3 (some .int) ∈ lw_g := tg (tm_2 _ (List.mem_of_getElem? (i := 31) (by decide +kernel))) rfl
theorem tw_350 : Cond.methodLink RX0 50 yX0_lackOf ∈ lw_g := tg (tm_2 _ (List.mem_of_getElem? (i := 32) (by decide +kernel))) rfl
theorem tw_351 : Cond.instanceMethod yX0_lackOf ∈ lw_g := tg (tm_2 _ (List.mem_of_getElem? (i := 33) (by decide +kernel))) rfl
theorem tw_352 : Cond.selects RX0 yX0_lackOf yX0_lackOf ∈ lw_g := tg (tm_2 _ (List.mem_of_getElem? (i := 34) (by decide +kernel))) rfl
theorem tw_353 : Cond.code yX0_lackOf cX0_lackOf 3 (some .int) ∈ lw_g := tg (tm_2 _ (List.mem_of_getElem? (i := 35) (by decide +kernel))) rfl
theorem tw_354 : Cond.methodLink RX0 58 yX0_behind ∈ lw_g := tg (tm_2 _ (List.mem_of_getElem? (i := 36) (by decide +kernel))) rfl
theorem tw_355 : Cond.static yX0_behind ∈ lw_g := tg (tm_2 _ (List.mem_of_getElem? (i := 37) (by decide +kernel))) rfl
theorem tw_356 : Cond.code yX0_behind cX0_behind 1 (some .int) ∈ lw_g := tg (tm_2 _ (List.mem_of_getElem? (i := 38) (by decide +kernel))) rfl
theorem tw_357 : Cond.methodLink RX0 61 yX0_hiddenOf ∈ lw_g := tg (tm_2 _ (List.mem_of_getElem? (i := 39) (by decide +kernel))) rfl
theorem tw_359 : Cond.instanceMethod yX0_hiddenOf ∈ lw_g := tg (tm_2 _ (List.mem_of_getElem? (i := 41) (by decide +kernel))) rfl
theorem tw_360 : Cond.code yX0_hiddenOf cX0_hiddenOf 2 (some .int) ∈ lw_g := tg (tm_2 _ (List.mem_of_getElem? (i := 42) (by decide +kernel))) rfl
theorem tw_361 : Cond.methodLink RX0 86 yX0_draws ∈ lw_g := tg (tm_2 _ (List.mem_of_getElem? (i := 43) (by decide +kernel))) rfl
theorem tw_362 : Cond.instanceMethod yX0_draws ∈ lw_g := tg (tm_2 _ (List.mem_of_getElem? (i := 44) (by decide +kernel))) rfl
theorem tw_363 : Cond.selects RX0 yX0_draws yX0_draws ∈ lw_g := tg (tm_2 _ (List.mem_of_getElem? (i := 45) (by decide +kernel))) rfl
theorem tw_364 : Cond.code yX0_draws cX0_draws 2 (some .int) ∈ lw_g := tg (tm_2 _ (List.mem_of_getElem? (i := 46) (by decide +kernel))) rfl
theorem tw_365 : Cond.methodLink RX0 89 yX0_letIn ∈ lw_g := tg (tm_2 _ (List.mem_of_getElem? (i := 47) (by decide +kernel))) rfl
theorem tw_366 : Cond.instanceMethod yX0_letIn ∈ lw_g := tg (tm_2 _ (List.mem_of_getElem? (i := 48) (by decide +kernel))) rfl
theorem tw_367 : Cond.selects RX0 yX0_letIn yX0_letIn ∈ lw_g := tg (tm_2 _ (List.mem_of_getElem? (i := 49) (by decide +kernel))) rfl
theorem tw_368 : Cond.code yX0_letIn cX0_letIn 3 (none) ∈ lw_g := tg (tm_2 _ (List.mem_of_getElem? (i := 50) (by decide +kernel))) rfl
theorem tw_369 : Cond.methodLink RX0 70 yX0_brings ∈ lw_g := tg (tm_2 _ (List.mem_of_getElem? (i := 51) (by decide +kernel))) rfl
theorem tw_370 : Cond.instanceMethod yX0_brings ∈ lw_g := tg (tm_2 _ (List.mem_of_getElem? (i := 52) (by decide +kernel))) rfl
theorem tw_371 : Cond.selects RX0 yX0_brings yX0_brings ∈ lw_g := tg (tm_2 _ (List.mem_of_getElem? (i := 53) (by decide +kernel))) rfl
theorem tw_372 : Cond.code yX0_brings cX0_brings 5 (some .int) ∈ lw_g := tg (tm_2 _ (List.mem_of_getElem? (i := 54) (by decide +kernel))) rfl
theorem tw_373 : Cond.methodLink RX0 74 Lib.Math.min.name ∈ lw_g := tg (tm_2 _ (List.mem_of_getElem? (i := 55) (by decide +kernel))) rfl
theorem tw_374 : Cond.methodLink RX0 79 Lib.Math.max.name ∈ lw_g := tg (tm_2 _ (List.mem_of_getElem? (i := 56) (by decide +kernel))) rfl
theorem tw_375 : Cond.methodLink RX4 79 yX1_drop ∈ lw_g := tg (tm_2 _ (List.mem_of_getElem? (i := 57) (by decide +kernel))) rfl
theorem tw_376 : Cond.instanceMethod yX1_drop ∈ lw_g := tg (tm_2 _ (List.mem_of_getElem? (i := 58) (by decide +kernel))) rfl
theorem tw_377 : Cond.selects RX1 yX1_drop yX1_drop ∈ lw_g := tg (tm_2 _ (List.mem_of_getElem? (i := 59) (by decide +kernel))) rfl
theorem tw_378 : Cond.code yX1_drop cX1_drop 1 (none) ∈ lw_g := tg (tm_2 _ (List.mem_of_getElem? (i := 60) (by decide +kernel))) rfl
theorem tw_379 : Cond.methodLink RX4 86 yX2_drop ∈ lw_g := tg (tm_2 _ (List.mem_of_getElem? (i := 61) (by decide +kernel))) rfl
theorem tw_380 : Cond.instanceMethod yX2_drop ∈ lw_g := tg (tm_2 _ (List.mem_of_getElem? (i := 62) (by decide +kernel))) rfl
theorem tw_381 : Cond.selects RX2 yX2_drop yX2_drop ∈ lw_g := tg (tm_2 _ (List.mem_of_getElem? (i := 63) (by decide +kernel))) rfl
theorem tw_382 : Cond.code yX2_drop cX2_drop 1 (none) ∈ lw_g := tg (tm_2 _ (List.mem_of_getElem? (i := 64) (by decide +kernel))) rfl
theorem tw_383 : Cond.methodLink RL 23 yX4_good ∈ lw_g := tg (tm_2 _ (List.mem_of_getElem? (i := 65) (by decide +kernel))) rfl
theorem tw_384 : Cond.instanceMethod yX4_good ∈ lw_g := tg (tm_2 _ (List.mem_of_getElem? (i := 66) (by decide +kernel))) rfl
theorem tw_385 : Cond.selects RX4 yX4_good yX4_good ∈ lw_g := tg (tm_2 _ (List.mem_of_getElem? (i := 67) (by decide +kernel))) rfl
theorem tw_386 : Cond.code yX4_good cX4_good 3 (some .int) ∈ lw_g := tg (tm_2 _ (List.mem_of_getElem? (i := 68) (by decide +kernel))) rfl
theorem tw_387 : Cond.methodLink RX4 87 yX4_isGood ∈ lw_g := tg (tm_2 _ (List.mem_of_getElem? (i := 69) (by decide +kernel))) rfl
theorem tw_388 : Cond.methodLink RX4 100 yX0_lackOf ∈ lw_g := tg (tm_2 _ (List.mem_of_getElem? (i := 70) (by decide +kernel))) rfl
theorem tw_389 : Cond.methodLink RL 28 yX4_shipOf ∈ lw_g := tg (tm_2 _ (List.mem_of_getElem? (i := 71) (by decide +kernel))) rfl
theorem tw_390 : Cond.instanceMethod yX4_shipOf ∈ lw_g := tg (tm_2 _ (List.mem_of_getElem? (i := 72) (by decide +kernel))) rfl
theorem tw_391 : Cond.selects RX4 yX4_shipOf yX4_shipOf ∈ lw_g := tg (tm_2 _ (List.mem_of_getElem? (i := 73) (by decide +kernel))) rfl
theorem tw_392 : Cond.code yX4_shipOf cX4_shipOf 3 (some .int) ∈ lw_g := tg (tm_2 _ (List.mem_of_getElem? (i := 74) (by decide +kernel))) rfl
theorem tw_393 : Cond.methodLink RX4 103 yX0_isShip ∈ lw_g := tg (tm_2 _ (List.mem_of_getElem? (i := 75) (by decide +kernel))) rfl
theorem tw_394 : Cond.methodLink RX4 118 yX0_isIn ∈ lw_g := tg (tm_2 _ (List.mem_of_getElem? (i := 76) (by decide +kernel))) rfl
theorem tw_395 : Cond.methodLink RX4 121 yX0_draws ∈ lw_g := tg (tm_2 _ (List.mem_of_getElem? (i := 77) (by decide +kernel))) rfl
theorem tw_396 : Cond.methodLink RX4 124 yX0_sinks ∈ lw_g := tg (tm_2 _ (List.mem_of_getElem? (i := 78) (by decide +kernel))) rfl
theorem tw_397 : Cond.methodLink RX4 127 yX0_depth ∈ lw_g := tg (tm_2 _ (List.mem_of_getElem? (i := 79) (by decide +kernel))) rfl
theorem tw_398 : Cond.instanceMethod yX0_depth ∈ lw_g := tg (tm_2 _ (List.mem_of_getElem? (i := 80) (by decide +kernel))) rfl
theorem tw_399 : Cond.selects RX0 yX0_depth yX0_depth ∈ lw_g := tg (tm_2 _ (List.mem_of_getElem? (i := 81) (by decide +kernel))) rfl
theorem tw_400 : Cond.code yX0_depth cX0_depth 2 (some .int) ∈ lw_g := tg (tm_2 _ (List.mem_of_getElem? (i := 82) (by decide +kernel))) rfl
theorem tw_401 : Cond.methodLink RL 32 yX4_tide ∈ lw_g := tg (tm_2 _ (List.mem_of_getElem? (i := 83) (by decide +kernel))) rfl
theorem tw_402 : Cond.instanceMethod yX4_tide ∈ lw_g := tg (tm_2 _ (List.mem_of_getElem? (i := 84) (by decide +kernel))) rfl
theorem tw_403 : Cond.selects RX4 yX4_tide yX4_tide ∈ lw_g := tg (tm_2 _ (List.mem_of_getElem? (i := 85) (by decide +kernel))) rfl
theorem tw_404 : Cond.code yX4_tide cX4_tide 3 (some .int) ∈ lw_g := tg (tm_2 _ (List.mem_of_getElem? (i := 86) (by decide +kernel))) rfl
theorem tw_405 : Cond.methodLink RX4 130 yX4_misfit ∈ lw_g := tg (tm_2 _ (List.mem_of_getElem? (i := 87) (by decide +kernel))) rfl
theorem tw_406 : Cond.methodLink RX4 138 yX4_tideOf ∈ lw_g := tg (tm_2 _ (List.mem_of_getElem? (i := 88) (by decide +kernel))) rfl
theorem tw_407 : Cond.methodLink RL 36 yX4_ship ∈ lw_g := tg (tm_2 _ (List.mem_of_getElem? (i := 89) (by decide +kernel))) rfl
theorem tw_408 : Cond.instanceMethod yX4_ship ∈ lw_g := tg (tm_2 _ (List.mem_of_getElem? (i := 90) (by decide +kernel))) rfl
theorem tw_409 : Cond.selects RX4 yX4_ship yX4_ship ∈ lw_g := tg (tm_2 _ (List.mem_of_getElem? (i := 91) (by decide +kernel))) rfl
theorem tw_410 : Cond.code yX4_ship cX4_ship 5 (some .int) ∈ lw_g := tg (tm_2 _ (List.mem_of_getElem? (i := 92) (by decide +kernel))) rfl
theorem tw_411 : Cond.methodLink RX4 144 yX0_addShip ∈ lw_g := tg (tm_2 _ (List.mem_of_getElem? (i := 93) (by decide +kernel))) rfl
theorem tw_412 : Cond.methodLink RL 41 yX4_hides ∈ lw_g := tg (tm_2 _ (List.mem_of_getElem? (i := 94) (by decide +kernel))) rfl
theorem tw_413 : Cond.instanceMethod yX4_hides ∈ lw_g := tg (tm_2 _ (List.mem_of_getElem? (i := 95) (by decide +kernel))) rfl
theorem tw_414 : Cond.selects RX4 yX4_hides yX4_hides ∈ lw_g := tg (tm_2 _ (List.mem_of_getElem? (i := 96) (by decide +kernel))) rfl
theorem tw_415 : Cond.code yX4_hides cX4_hides 3 (some .int) ∈ lw_g := tg (tm_2 _ (List.mem_of_getElem? (i := 97) (by decide +kernel))) rfl
theorem tw_416 : Cond.methodLink RX4 148 yX0_canHide ∈ lw_g := tg (tm_2 _ (List.mem_of_getElem? (i := 98) (by decide +kernel))) rfl
theorem tw_417 : Cond.methodLink RX4 152 yX2_keep ∈ lw_g := tg (tm_2 _ (List.mem_of_getElem? (i := 99) (by decide +kernel))) rfl
theorem tw_418 : Cond.instanceMethod yX2_keep ∈ lw_g := tg (tm_2 _ (List.mem_of_getElem? (i := 100) (by decide +kernel))) rfl
theorem tw_419 : Cond.selects RX2 yX2_keep yX2_keep ∈ lw_g := tg (tm_2 _ (List.mem_of_getElem? (i := 101) (by decide +kernel))) rfl
theorem tw_420 : Cond.code yX2_keep cX2_keep 3 (none) ∈ lw_g := tg (tm_2 _ (List.mem_of_getElem? (i := 102) (by decide +kernel))) rfl
theorem tw_421 : Cond.methodLink RX2 22 yX2_forgetOldest ∈ lw_g := tg (tm_2 _ (List.mem_of_getElem? (i := 103) (by decide +kernel))) rfl
theorem tw_423 : Cond.instanceMethod yX2_forgetOldest ∈ lw_g := tg (tm_2 _ (List.mem_of_getElem? (i := 105) (by decide +kernel))) rfl
theorem tw_424 : Cond.code yX2_forgetOldest cX2_forgetOldest 3 (none) ∈ lw_g := tg (tm_2 _ (List.mem_of_getElem? (i := 106) (by decide +kernel))) rfl
theorem tw_425 : Cond.methodLink RX2 25 yX2_at ∈ lw_g := tg (tm_2 _ (List.mem_of_getElem? (i := 107) (by decide +kernel))) rfl
theorem tw_427 : Cond.instanceMethod yX2_at ∈ lw_g := tg (tm_2 _ (List.mem_of_getElem? (i := 109) (by decide +kernel))) rfl
theorem tw_428 : Cond.code yX2_at cX2_at 2 (some (.object "TakesWhatItLacks$Harbour")) ∈ lw_g := tg (tm_2 _ (List.mem_of_getElem? (i := 110) (by decide +kernel))) rfl
theorem tw_429 : Cond.methodLink RX2 29 yX0_copyFrom ∈ lw_g := tg (tm_2 _ (List.mem_of_getElem? (i := 111) (by decide +kernel))) rfl
theorem tw_430 : Cond.methodLink RX4 155 yX0_hideAway ∈ lw_g := tg (tm_2 _ (List.mem_of_getElem? (i := 112) (by decide +kernel))) rfl
theorem tw_431 : Cond.methodLink RL 45 yX4_uses ∈ lw_g := tg (tm_2 _ (List.mem_of_getElem? (i := 113) (by decide +kernel))) rfl
theorem tw_432 : Cond.instanceMethod yX4_uses ∈ lw_g := tg (tm_2 _ (List.mem_of_getElem? (i := 114) (by decide +kernel))) rfl
theorem tw_433 : Cond.selects RX4 yX4_uses yX4_uses ∈ lw_g := tg (tm_2 _ (List.mem_of_getElem? (i := 115) (by decide +kernel))) rfl
theorem tw_434 : Cond.code yX4_uses cX4_uses 5 (some .int) ∈ lw_g := tg (tm_2 _ (List.mem_of_getElem? (i := 116) (by decide +kernel))) rfl
theorem tw_435 : Cond.methodLink RL 49 yX4_sends ∈ lw_g := tg (tm_2 _ (List.mem_of_getElem? (i := 117) (by decide +kernel))) rfl
theorem tw_436 : Cond.instanceMethod yX4_sends ∈ lw_g := tg (tm_2 _ (List.mem_of_getElem? (i := 118) (by decide +kernel))) rfl
theorem tw_437 : Cond.selects RX4 yX4_sends yX4_sends ∈ lw_g := tg (tm_2 _ (List.mem_of_getElem? (i := 119) (by decide +kernel))) rfl
theorem tw_438 : Cond.code yX4_sends cX4_sends 5 (some .int) ∈ lw_g := tg (tm_2 _ (List.mem_of_getElem? (i := 120) (by decide +kernel))) rfl
theorem tw_439 : Cond.methodLink RX4 159 yX0_sendOut ∈ lw_g := tg (tm_2 _ (List.mem_of_getElem? (i := 121) (by decide +kernel))) rfl
theorem tw_440 : Cond.methodLink RL 53 yX4_days ∈ lw_g := tg (tm_2 _ (List.mem_of_getElem? (i := 122) (by decide +kernel))) rfl
theorem tw_441 : Cond.instanceMethod yX4_days ∈ lw_g := tg (tm_2 _ (List.mem_of_getElem? (i := 123) (by decide +kernel))) rfl
theorem tw_442 : Cond.selects RX4 yX4_days yX4_days ∈ lw_g := tg (tm_2 _ (List.mem_of_getElem? (i := 124) (by decide +kernel))) rfl
theorem tw_443 : Cond.code yX4_days cX4_days 3 (some .int) ∈ lw_g := tg (tm_2 _ (List.mem_of_getElem? (i := 125) (by decide +kernel))) rfl
theorem tw_444 : Cond.methodLink RX4 162 yX0_passDays ∈ lw_g := tg (tm_2 _ (List.mem_of_getElem? (i := 126) (by decide +kernel))) rfl
theorem tw_445 : Cond.methodLink RX4 168 yJ6_bitCount_0f7a4 ∈ lw_g := tg (tm_2 _ (List.mem_of_getElem? (i := 127) (by decide +kernel))) rfl
theorem tw_446 : Cond.static yJ6_bitCount_0f7a4 ∈ lw_g := tg (tm_2 _ (List.mem_of_getElem? (i := 128) (by decide +kernel))) rfl
theorem tw_447 : Cond.code yJ6_bitCount_0f7a4 cJ6_bitCount_0f7a4 1 (some .int) ∈ lw_g := tg (tm_2 _ (List.mem_of_getElem? (i := 129) (by decide +kernel))) rfl
theorem tw_448 : (Jvm.Cond.constant "java/lang/Integer" (265 : Nat) (1431655765 : Int32)) ∈ lw_g := tg (tm_2 _ (List.mem_of_getElem? (i := 130) (by decide +kernel))) rfl
theorem tw_449 : (Jvm.Cond.constant "java/lang/Integer" (266 : Nat) (858993459 : Int32)) ∈ lw_g := tg (tm_2 _ (List.mem_of_getElem? (i := 131) (by decide +kernel))) rfl
theorem tw_450 : (Jvm.Cond.constant "java/lang/Integer" (267 : Nat) (252645135 : Int32)) ∈ lw_g := tg (tm_2 _ (List.mem_of_getElem? (i := 132) (by decide +kernel))) rfl
theorem tw_451 : Cond.methodLink RL 57 yX4_back ∈ lw_g := tg (tm_2 _ (List.mem_of_getElem? (i := 133) (by decide +kernel))) rfl
theorem tw_452 : Cond.instanceMethod yX4_back ∈ lw_g := tg (tm_2 _ (List.mem_of_getElem? (i := 134) (by decide +kernel))) rfl
theorem tw_453 : Cond.selects RX4 yX4_back yX4_back ∈ lw_g := tg (tm_2 _ (List.mem_of_getElem? (i := 135) (by decide +kernel))) rfl
theorem tw_454 : Cond.code yX4_back cX4_back 1 (some .int) ∈ lw_g := tg (tm_2 _ (List.mem_of_getElem? (i := 136) (by decide +kernel))) rfl
theorem tw_455 : Cond.methodLink RX4 173 yX2_held ∈ lw_g := tg (tm_2 _ (List.mem_of_getElem? (i := 137) (by decide +kernel))) rfl
theorem tw_456 : Cond.instanceMethod yX2_held ∈ lw_g := tg (tm_2 _ (List.mem_of_getElem? (i := 138) (by decide +kernel))) rfl
theorem tw_457 : Cond.selects RX2 yX2_held yX2_held ∈ lw_g := tg (tm_2 _ (List.mem_of_getElem? (i := 139) (by decide +kernel))) rfl
theorem tw_458 : Cond.code yX2_held cX2_held 1 (some .int) ∈ lw_g := tg (tm_2 _ (List.mem_of_getElem? (i := 140) (by decide +kernel))) rfl
theorem tw_459 : Cond.methodLink RX4 176 yX2_takeBack ∈ lw_g := tg (tm_2 _ (List.mem_of_getElem? (i := 141) (by decide +kernel))) rfl
theorem tw_460 : Cond.instanceMethod yX2_takeBack ∈ lw_g := tg (tm_2 _ (List.mem_of_getElem? (i := 142) (by decide +kernel))) rfl
theorem tw_461 : Cond.selects RX2 yX2_takeBack yX2_takeBack ∈ lw_g := tg (tm_2 _ (List.mem_of_getElem? (i := 143) (by decide +kernel))) rfl
theorem tw_462 : Cond.code yX2_takeBack cX2_takeBack 3 (none) ∈ lw_g := tg (tm_2 _ (List.mem_of_getElem? (i := 144) (by decide +kernel))) rfl
theorem tw_463 : Cond.methodLink RL 61 yX4_thereIn ∈ lw_g := tg (tm_2 _ (List.mem_of_getElem? (i := 145) (by decide +kernel))) rfl
theorem tw_464 : Cond.instanceMethod yX4_thereIn ∈ lw_g := tg (tm_2 _ (List.mem_of_getElem? (i := 146) (by decide +kernel))) rfl
theorem tw_465 : Cond.selects RX4 yX4_thereIn yX4_thereIn ∈ lw_g := tg (tm_2 _ (List.mem_of_getElem? (i := 147) (by decide +kernel))) rfl
theorem tw_466 : Cond.code yX4_thereIn cX4_thereIn 5 (some .int) ∈ lw_g := tg (tm_2 _ (List.mem_of_getElem? (i := 148) (by decide +kernel))) rfl
theorem tw_467 : Cond.methodLink RL 65 yX4_then ∈ lw_g := tg (tm_2 _ (List.mem_of_getElem? (i := 149) (by decide +kernel))) rfl
theorem tw_468 : Cond.instanceMethod yX4_then ∈ lw_g := tg (tm_2 _ (List.mem_of_getElem? (i := 150) (by decide +kernel))) rfl
theorem tw_469 : Cond.selects RX4 yX4_then yX4_then ∈ lw_g := tg (tm_2 _ (List.mem_of_getElem? (i := 151) (by decide +kernel))) rfl
theorem tw_470 : Cond.code yX4_then cX4_then 5 (some .int) ∈ lw_g := tg (tm_2 _ (List.mem_of_getElem? (i := 152) (by decide +kernel))) rfl
theorem tw_471 : Cond.methodLink RL 69 yX4_comes ∈ lw_g := tg (tm_2 _ (List.mem_of_getElem? (i := 153) (by decide +kernel))) rfl
theorem tw_472 : Cond.instanceMethod yX4_comes ∈ lw_g := tg (tm_2 _ (List.mem_of_getElem? (i := 154) (by decide +kernel))) rfl
theorem tw_473 : Cond.selects RX4 yX4_comes yX4_comes ∈ lw_g := tg (tm_2 _ (List.mem_of_getElem? (i := 155) (by decide +kernel))) rfl
theorem tw_474 : Cond.code yX4_comes cX4_comes 2 (some .int) ∈ lw_g := tg (tm_2 _ (List.mem_of_getElem? (i := 156) (by decide +kernel))) rfl
theorem tw_475 : Cond.methodLink RX4 182 yX4_firstToComeIn ∈ lw_g := tg (tm_2 _ (List.mem_of_getElem? (i := 157) (by decide +kernel))) rfl
theorem tw_477 : Cond.instanceMethod yX4_firstToComeIn ∈ lw_g := tg (tm_2 _ (List.mem_of_getElem? (i := 159) (by decide +kernel))) rfl
theorem tw_478 : Cond.code yX4_firstToComeIn cX4_firstToComeIn 4 (some .int) ∈ lw_g := tg (tm_2 _ (List.mem_of_getElem? (i := 160) (by decide +kernel))) rfl
theorem tw_479 : Cond.methodLink RX4 208 yX0_passDay ∈ lw_g := tg (tm_2 _ (List.mem_of_getElem? (i := 161) (by decide +kernel))) rfl
theorem tw_480 : Cond.methodLink RX4 185 yX0_daysUntilIn ∈ lw_g := tg (tm_2 _ (List.mem_of_getElem? (i := 162) (by decide +kernel))) rfl
theorem tw_481 : Cond.instanceMethod yX0_daysUntilIn ∈ lw_g := tg (tm_2 _ (List.mem_of_getElem? (i := 163) (by decide +kernel))) rfl
theorem tw_482 : Cond.selects RX0 yX0_daysUntilIn yX0_daysUntilIn ∈ lw_g := tg (tm_2 _ (List.mem_of_getElem? (i := 164) (by decide +kernel))) rfl
theorem tw_483 : Cond.code yX0_daysUntilIn cX0_daysUntilIn 4 (some .int) ∈ lw_g := tg (tm_2 _ (List.mem_of_getElem? (i := 165) (by decide +kernel))) rfl
theorem tw_484 : Cond.methodLink RL 73 yX4_shut ∈ lw_g := tg (tm_2 _ (List.mem_of_getElem? (i := 166) (by decide +kernel))) rfl
theorem tw_485 : Cond.instanceMethod yX4_shut ∈ lw_g := tg (tm_2 _ (List.mem_of_getElem? (i := 167) (by decide +kernel))) rfl
theorem tw_486 : Cond.selects RX4 yX4_shut yX4_shut ∈ lw_g := tg (tm_2 _ (List.mem_of_getElem? (i := 168) (by decide +kernel))) rfl
theorem tw_487 : Cond.code yX4_shut cX4_shut 3 (some .int) ∈ lw_g := tg (tm_2 _ (List.mem_of_getElem? (i := 169) (by decide +kernel))) rfl
theorem tw_488 : Cond.methodLink RX4 189 yX4_isShut ∈ lw_g := tg (tm_2 _ (List.mem_of_getElem? (i := 170) (by decide +kernel))) rfl
theorem tw_490 : Cond.instanceMethod yX4_isShut ∈ lw_g := tg (tm_2 _ (List.mem_of_getElem? (i := 172) (by decide +kernel))) rfl
theorem tw_491 : Cond.code yX4_isShut cX4_isShut 2 (some .boolean) ∈ lw_g := tg (tm_2 _ (List.mem_of_getElem? (i := 173) (by decide +kernel))) rfl
theorem tw_492 : Cond.methodLink RX4 192 yX4_isInNextDay ∈ lw_g := tg (tm_2 _ (List.mem_of_getElem? (i := 174) (by decide +kernel))) rfl
theorem tw_494 : Cond.instanceMethod yX4_isInNextDay ∈ lw_g := tg (tm_2 _ (List.mem_of_getElem? (i := 176) (by decide +kernel))) rfl
theorem tw_495 : Cond.code yX4_isInNextDay cX4_isInNextDay 4 (some .boolean) ∈ lw_g := tg (tm_2 _ (List.mem_of_getElem? (i := 177) (by decide +kernel))) rfl
theorem tw_496 : Cond.methodLink RL 77 yX4_byWhom ∈ lw_g := tg (tm_2 _ (List.mem_of_getElem? (i := 178) (by decide +kernel))) rfl
theorem tw_497 : Cond.instanceMethod yX4_byWhom ∈ lw_g := tg (tm_2 _ (List.mem_of_getElem? (i := 179) (by decide +kernel))) rfl
theorem tw_498 : Cond.selects RX4 yX4_byWhom yX4_byWhom ∈ lw_g := tg (tm_2 _ (List.mem_of_getElem? (i := 180) (by decide +kernel))) rfl
theorem tw_499 : Cond.code yX4_byWhom cX4_byWhom 3 (some .int) ∈ lw_g := tg (tm_2 _ (List.mem_of_getElem? (i := 181) (by decide +kernel))) rfl
theorem tw_500 : Cond.methodLink RL 81 yX4_loaded ∈ lw_g := tg (tm_2 _ (List.mem_of_getElem? (i := 182) (by decide +kernel))) rfl
theorem tw_501 : Cond.instanceMethod yX4_loaded ∈ lw_g := tg (tm_2 _ (List.mem_of_getElem? (i := 183) (by decide +kernel))) rfl
theorem tw_502 : Cond.selects RX4 yX4_loaded yX4_loaded ∈ lw_g := tg (tm_2 _ (List.mem_of_getElem? (i := 184) (by decide +kernel))) rfl
theorem tw_503 : Cond.code yX4_loaded cX4_loaded 8 (some .int) ∈ lw_g := tg (tm_2 _ (List.mem_of_getElem? (i := 185) (by decide +kernel))) rfl
theorem tw_504 : Cond.methodLink RL 85 yX4_hide ∈ lw_g := tg (tm_2 _ (List.mem_of_getElem? (i := 186) (by decide +kernel))) rfl
theorem tw_505 : Cond.instanceMethod yX4_hide ∈ lw_g := tg (tm_2 _ (List.mem_of_getElem? (i := 187) (by decide +kernel))) rfl
theorem tw_506 : Cond.selects RX4 yX4_hide yX4_hide ∈ lw_g := tg (tm_2 _ (List.mem_of_getElem? (i := 188) (by decide +kernel))) rfl
theorem tw_507 : Cond.code yX4_hide cX4_hide 7 (some .int) ∈ lw_g := tg (tm_2 _ (List.mem_of_getElem? (i := 189) (by decide +kernel))) rfl
theorem tw_508 : Cond.methodLink RL 90 yX4_fewest ∈ lw_g := tg (tm_2 _ (List.mem_of_getElem? (i := 190) (by decide +kernel))) rfl
theorem tw_509 : Cond.instanceMethod yX4_fewest ∈ lw_g := tg (tm_2 _ (List.mem_of_getElem? (i := 191) (by decide +kernel))) rfl
theorem tw_510 : Cond.selects RX4 yX4_fewest yX4_fewest ∈ lw_g := tg (tm_2 _ (List.mem_of_getElem? (i := 192) (by decide +kernel))) rfl
theorem tw_511 : Cond.code yX4_fewest cX4_fewest 6 (some .int) ∈ lw_g := tg (tm_2 _ (List.mem_of_getElem? (i := 193) (by decide +kernel))) rfl
theorem tw_512 : Cond.methodLink RX4 195 yX4_isInWithout ∈ lw_g := tg (tm_2 _ (List.mem_of_getElem? (i := 194) (by decide +kernel))) rfl
theorem tw_514 : Cond.instanceMethod yX4_isInWithout ∈ lw_g := tg (tm_2 _ (List.mem_of_getElem? (i := 196) (by decide +kernel))) rfl
theorem tw_515 : Cond.code yX4_isInWithout cX4_isInWithout 6 (some .boolean) ∈ lw_g := tg (tm_2 _ (List.mem_of_getElem? (i := 197) (by decide +kernel))) rfl
theorem tw_516 : Cond.methodLink RL 94 yX4_forWhat ∈ lw_g := tg (tm_2 _ (List.mem_of_getElem? (i := 198) (by decide +kernel))) rfl
theorem tw_517 : Cond.instanceMethod yX4_forWhat ∈ lw_g := tg (tm_2 _ (List.mem_of_getElem? (i := 199) (by decide +kernel))) rfl
theorem tw_518 : Cond.selects RX4 yX4_forWhat yX4_forWhat ∈ lw_g := tg (tm_2 _ (List.mem_of_getElem? (i := 200) (by decide +kernel))) rfl
theorem tw_519 : Cond.code yX4_forWhat cX4_forWhat 4 (some .int) ∈ lw_g := tg (tm_2 _ (List.mem_of_getElem? (i := 201) (by decide +kernel))) rfl
theorem tw_520 : Cond.methodLink RX4 199 yX4_isInUnlacked ∈ lw_g := tg (tm_2 _ (List.mem_of_getElem? (i := 202) (by decide +kernel))) rfl
theorem tw_522 : Cond.instanceMethod yX4_isInUnlacked ∈ lw_g := tg (tm_2 _ (List.mem_of_getElem? (i := 204) (by decide +kernel))) rfl
theorem tw_523 : Cond.code yX4_isInUnlacked cX4_isInUnlacked 4 (some .boolean) ∈ lw_g := tg (tm_2 _ (List.mem_of_getElem? (i := 205) (by decide +kernel))) rfl
theorem tw_524 : Cond.methodLink RL 98 yX4_want ∈ lw_g := tg (tm_2 _ (List.mem_of_getElem? (i := 206) (by decide +kernel))) rfl
theorem tw_525 : Cond.instanceMethod yX4_want ∈ lw_g := tg (tm_2 _ (List.mem_of_getElem? (i := 207) (by decide +kernel))) rfl
theorem tw_526 : Cond.selects RX4 yX4_want yX4_want ∈ lw_g := tg (tm_2 _ (List.mem_of_getElem? (i := 208) (by decide +kernel))) rfl
theorem tw_527 : Cond.code yX4_want cX4_want 3 (some .int) ∈ lw_g := tg (tm_2 _ (List.mem_of_getElem? (i := 209) (by decide +kernel))) rfl
theorem tw_528 : Cond.methodLink RX4 202 yX0_wantWithin ∈ lw_g := tg (tm_2 _ (List.mem_of_getElem? (i := 210) (by decide +kernel))) rfl
theorem tw_529 : Cond.instanceMethod yX0_wantWithin ∈ lw_g := tg (tm_2 _ (List.mem_of_getElem? (i := 211) (by decide +kernel))) rfl
theorem tw_530 : Cond.selects RX0 yX0_wantWithin yX0_wantWithin ∈ lw_g := tg (tm_2 _ (List.mem_of_getElem? (i := 212) (by decide +kernel))) rfl
theorem tw_531 : Cond.code yX0_wantWithin cX0_wantWithin 5 (some .int) ∈ lw_g := tg (tm_2 _ (List.mem_of_getElem? (i := 213) (by decide +kernel))) rfl
theorem tw_532 : Cond.methodLink RX0 95 yX0_lackOfAll ∈ lw_g := tg (tm_2 _ (List.mem_of_getElem? (i := 214) (by decide +kernel))) rfl
theorem tw_533 : Cond.instanceMethod yX0_lackOfAll ∈ lw_g := tg (tm_2 _ (List.mem_of_getElem? (i := 215) (by decide +kernel))) rfl
theorem tw_534 : Cond.selects RX0 yX0_lackOfAll yX0_lackOfAll ∈ lw_g := tg (tm_2 _ (List.mem_of_getElem? (i := 216) (by decide +kernel))) rfl
theorem tw_535 : Cond.code yX0_lackOfAll cX0_lackOfAll 3 (some .int) ∈ lw_g := tg (tm_2 _ (List.mem_of_getElem? (i := 217) (by decide +kernel))) rfl
theorem tw_536 : Cond.methodLink RL 102 yX4_bare ∈ lw_g := tg (tm_2 _ (List.mem_of_getElem? (i := 218) (by decide +kernel))) rfl
theorem tw_537 : Cond.instanceMethod yX4_bare ∈ lw_g := tg (tm_2 _ (List.mem_of_getElem? (i := 219) (by decide +kernel))) rfl
theorem tw_538 : Cond.selects RX4 yX4_bare yX4_bare ∈ lw_g := tg (tm_2 _ (List.mem_of_getElem? (i := 220) (by decide +kernel))) rfl
theorem tw_539 : Cond.code yX4_bare cX4_bare 5 (some .int) ∈ lw_g := tg (tm_2 _ (List.mem_of_getElem? (i := 221) (by decide +kernel))) rfl
theorem tw_540 : Cond.methodLink RX4 205 yX0_firstBare ∈ lw_g := tg (tm_2 _ (List.mem_of_getElem? (i := 222) (by decide +kernel))) rfl
theorem tw_541 : Cond.instanceMethod yX0_firstBare ∈ lw_g := tg (tm_2 _ (List.mem_of_getElem? (i := 223) (by decide +kernel))) rfl
theorem tw_542 : Cond.selects RX0 yX0_firstBare yX0_firstBare ∈ lw_g := tg (tm_2 _ (List.mem_of_getElem? (i := 224) (by decide +kernel))) rfl
theorem tw_543 : Cond.code yX0_firstBare cX0_firstBare 2 (some .int) ∈ lw_g := tg (tm_2 _ (List.mem_of_getElem? (i := 225) (by decide +kernel))) rfl
theorem tw_544 : Cond.methodLink RL 106 yX4_lasts ∈ lw_g := tg (tm_2 _ (List.mem_of_getElem? (i := 226) (by decide +kernel))) rfl
theorem tw_545 : Cond.instanceMethod yX4_lasts ∈ lw_g := tg (tm_2 _ (List.mem_of_getElem? (i := 227) (by decide +kernel))) rfl
theorem tw_546 : Cond.selects RX4 yX4_lasts yX4_lasts ∈ lw_g := tg (tm_2 _ (List.mem_of_getElem? (i := 228) (by decide +kernel))) rfl
theorem tw_547 : Cond.code yX4_lasts cX4_lasts 3 (some .int) ∈ lw_g := tg (tm_2 _ (List.mem_of_getElem? (i := 229) (by decide +kernel))) rfl
theorem tw_548 : Cond.methodLink RX4 211 Lib.Math.min.name ∈ lw_g := tg (tm_2 _ (List.mem_of_getElem? (i := 230) (by decide +kernel))) rfl
theorem tw_549 : Cond.methodLink RL 110 yX4_best ∈ lw_g := tg (tm_2 _ (List.mem_of_getElem? (i := 231) (by decide +kernel))) rfl
theorem tw_550 : Cond.instanceMethod yX4_best ∈ lw_g := tg (tm_2 _ (List.mem_of_getElem? (i := 232) (by decide +kernel))) rfl
theorem tw_551 : Cond.selects RX4 yX4_best yX4_best ∈ lw_g := tg (tm_2 _ (List.mem_of_getElem? (i := 233) (by decide +kernel))) rfl
theorem tw_552 : Cond.code yX4_best cX4_best 7 (some .int) ∈ lw_g := tg (tm_2 _ (List.mem_of_getElem? (i := 234) (by decide +kernel))) rfl
theorem tw_553 : Cond.methodLink RL 114 yX4_whichTown ∈ lw_g := tg (tm_2 _ (List.mem_of_getElem? (i := 235) (by decide +kernel))) rfl
theorem tw_554 : Cond.instanceMethod yX4_whichTown ∈ lw_g := tg (tm_2 _ (List.mem_of_getElem? (i := 236) (by decide +kernel))) rfl
theorem tw_555 : Cond.selects RX4 yX4_whichTown yX4_whichTown ∈ lw_g := tg (tm_2 _ (List.mem_of_getElem? (i := 237) (by decide +kernel))) rfl
theorem tw_556 : Cond.code yX4_whichTown cX4_whichTown 8 (some .int) ∈ lw_g := tg (tm_2 _ (List.mem_of_getElem? (i := 238) (by decide +kernel))) rfl
theorem tw_557 : Cond.methodLink RX4 216 yX4_tellsWhoCame ∈ lw_g := tg (tm_2 _ (List.mem_of_getElem? (i := 239) (by decide +kernel))) rfl
theorem tw_559 : Cond.instanceMethod yX4_tellsWhoCame ∈ lw_g := tg (tm_3 _ (List.mem_of_getElem? (i := 1) (by decide +kernel))) rfl
theorem tw_560 : Cond.code yX4_tellsWhoCame cX4_tellsWhoCame 3 (some .boolean) ∈ lw_g := tg (tm_3 _ (List.mem_of_getElem? (i := 2) (by decide +kernel))) rfl
theorem tw_561 : Cond.methodLink RX4 270 yX1_at ∈ lw_g := tg (tm_3 _ (List.mem_of_getElem? (i := 3) (by decide +kernel))) rfl
theorem tw_562 : Cond.methodLink RL 118 yX4_whatKind ∈ lw_g := tg (tm_3 _ (List.mem_of_getElem? (i := 4) (by decide +kernel))) rfl
theorem tw_563 : Cond.instanceMethod yX4_whatKind ∈ lw_g := tg (tm_3 _ (List.mem_of_getElem? (i := 5) (by decide +kernel))) rfl
theorem tw_564 : Cond.selects RX4 yX4_whatKind yX4_whatKind ∈ lw_g := tg (tm_3 _ (List.mem_of_getElem? (i := 6) (by decide +kernel))) rfl
theorem tw_565 : Cond.code yX4_whatKind cX4_whatKind 7 (some .int) ∈ lw_g := tg (tm_3 _ (List.mem_of_getElem? (i := 7) (by decide +kernel))) rfl
theorem tw_566 : Cond.methodLink RX4 220 yX4_tellsDepths ∈ lw_g := tg (tm_3 _ (List.mem_of_getElem? (i := 8) (by decide +kernel))) rfl
theorem tw_568 : Cond.instanceMethod yX4_tellsDepths ∈ lw_g := tg (tm_3 _ (List.mem_of_getElem? (i := 10) (by decide +kernel))) rfl
theorem tw_569 : Cond.code yX4_tellsDepths cX4_tellsDepths 4 (some .boolean) ∈ lw_g := tg (tm_3 _ (List.mem_of_getElem? (i := 11) (by decide +kernel))) rfl
theorem tw_570 : Cond.methodLink RL 122 yX4_two ∈ lw_g := tg (tm_3 _ (List.mem_of_getElem? (i := 12) (by decide +kernel))) rfl
theorem tw_571 : Cond.instanceMethod yX4_two ∈ lw_g := tg (tm_3 _ (List.mem_of_getElem? (i := 13) (by decide +kernel))) rfl
theorem tw_572 : Cond.selects RX4 yX4_two yX4_two ∈ lw_g := tg (tm_3 _ (List.mem_of_getElem? (i := 14) (by decide +kernel))) rfl
theorem tw_573 : Cond.code yX4_two cX4_two 6 (some .int) ∈ lw_g := tg (tm_3 _ (List.mem_of_getElem? (i := 15) (by decide +kernel))) rfl
theorem tw_574 : Cond.methodLink RX4 224 yX4_loss ∈ lw_g := tg (tm_3 _ (List.mem_of_getElem? (i := 16) (by decide +kernel))) rfl
theorem tw_576 : Cond.instanceMethod yX4_loss ∈ lw_g := tg (tm_3 _ (List.mem_of_getElem? (i := 18) (by decide +kernel))) rfl
theorem tw_577 : Cond.code yX4_loss cX4_loss 8 (some .int) ∈ lw_g := tg (tm_3 _ (List.mem_of_getElem? (i := 19) (by decide +kernel))) rfl
theorem tw_578 : Cond.methodLink RL 126 yX4_storms ∈ lw_g := tg (tm_3 _ (List.mem_of_getElem? (i := 20) (by decide +kernel))) rfl
theorem tw_579 : Cond.instanceMethod yX4_storms ∈ lw_g := tg (tm_3 _ (List.mem_of_getElem? (i := 21) (by decide +kernel))) rfl
theorem tw_580 : Cond.selects RX4 yX4_storms yX4_storms ∈ lw_g := tg (tm_3 _ (List.mem_of_getElem? (i := 22) (by decide +kernel))) rfl
theorem tw_581 : Cond.code yX4_storms cX4_storms 8 (some .long) ∈ lw_g := tg (tm_3 _ (List.mem_of_getElem? (i := 23) (by decide +kernel))) rfl
theorem tw_582 : Cond.methodLink RX4 228 yX4_refuseLong ∈ lw_g := tg (tm_3 _ (List.mem_of_getElem? (i := 24) (by decide +kernel))) rfl
theorem tw_584 : Cond.instanceMethod yX4_refuseLong ∈ lw_g := tg (tm_3 _ (List.mem_of_getElem? (i := 26) (by decide +kernel))) rfl
theorem tw_585 : Cond.code yX4_refuseLong cX4_refuseLong 2 (some .long) ∈ lw_g := tg (tm_3 _ (List.mem_of_getElem? (i := 27) (by decide +kernel))) rfl
theorem tw_586 : (Jvm.Cond.constantLong "TakesWhatItLacks" (273 : Nat) (4000000000000000000 : Int64)) ∈ lw_g := tg (tm_3 _ (List.mem_of_getElem? (i := 28) (by decide +kernel))) rfl
theorem tw_587 : Cond.methodLink RX4 232 yX4_isInThrough ∈ lw_g := tg (tm_3 _ (List.mem_of_getElem? (i := 29) (by decide +kernel))) rfl
theorem tw_589 : Cond.instanceMethod yX4_isInThrough ∈ lw_g := tg (tm_3 _ (List.mem_of_getElem? (i := 31) (by decide +kernel))) rfl
theorem tw_590 : Cond.code yX4_isInThrough cX4_isInThrough 6 (some .boolean) ∈ lw_g := tg (tm_3 _ (List.mem_of_getElem? (i := 32) (by decide +kernel))) rfl
theorem tw_591 : Cond.methodLink RX4 235 yX4_power ∈ lw_g := tg (tm_3 _ (List.mem_of_getElem? (i := 33) (by decide +kernel))) rfl
theorem tw_592 : Cond.static yX4_power ∈ lw_g := tg (tm_3 _ (List.mem_of_getElem? (i := 34) (by decide +kernel))) rfl
theorem tw_593 : Cond.code yX4_power cX4_power 5 (some .long) ∈ lw_g := tg (tm_3 _ (List.mem_of_getElem? (i := 35) (by decide +kernel))) rfl
theorem tw_594 : Cond.methodLink RX4 239 yX4_partOfFraction ∈ lw_g := tg (tm_3 _ (List.mem_of_getElem? (i := 36) (by decide +kernel))) rfl
theorem tw_595 : Cond.static yX4_partOfFraction ∈ lw_g := tg (tm_3 _ (List.mem_of_getElem? (i := 37) (by decide +kernel))) rfl
theorem tw_596 : Cond.code yX4_partOfFraction cX4_partOfFraction 12 (some .long) ∈ lw_g := tg (tm_3 _ (List.mem_of_getElem? (i := 38) (by decide +kernel))) rfl
theorem tw_597 : Cond.methodLink RL 180 yX4_lots ∈ lw_g := tg (tm_3 _ (List.mem_of_getElem? (i := 39) (by decide +kernel))) rfl
theorem tw_598 : Cond.instanceMethod yX4_lots ∈ lw_g := tg (tm_3 _ (List.mem_of_getElem? (i := 40) (by decide +kernel))) rfl
theorem tw_599 : Cond.selects RX4 yX4_lots yX4_lots ∈ lw_g := tg (tm_3 _ (List.mem_of_getElem? (i := 41) (by decide +kernel))) rfl
theorem tw_600 : Cond.code yX4_lots cX4_lots 10 (some .int) ∈ lw_g := tg (tm_3 _ (List.mem_of_getElem? (i := 42) (by decide +kernel))) rfl
theorem tw_601 : (Jvm.Cond.constant "TakesWhatItLacks" (243 : Nat) (1103515245 : Int32)) ∈ lw_g := tg (tm_3 _ (List.mem_of_getElem? (i := 43) (by decide +kernel))) rfl
theorem tw_602 : (Jvm.Cond.constant "TakesWhatItLacks" (244 : Nat) (2147483647 : Int32)) ∈ lw_g := tg (tm_3 _ (List.mem_of_getElem? (i := 44) (by decide +kernel))) rfl
theorem tw_603 : Cond.methodLink RX4 245 yX0_lackOfAll ∈ lw_g := tg (tm_3 _ (List.mem_of_getElem? (i := 45) (by decide +kernel))) rfl
theorem tw_604 : Cond.methodLink RL 131 yX4_deepest ∈ lw_g := tg (tm_3 _ (List.mem_of_getElem? (i := 46) (by decide +kernel))) rfl
theorem tw_605 : Cond.instanceMethod yX4_deepest ∈ lw_g := tg (tm_3 _ (List.mem_of_getElem? (i := 47) (by decide +kernel))) rfl
theorem tw_606 : Cond.selects RX4 yX4_deepest yX4_deepest ∈ lw_g := tg (tm_3 _ (List.mem_of_getElem? (i := 48) (by decide +kernel))) rfl
theorem tw_607 : Cond.code yX4_deepest cX4_deepest 2 (some .int) ∈ lw_g := tg (tm_3 _ (List.mem_of_getElem? (i := 49) (by decide +kernel))) rfl
theorem tw_608 : Cond.methodLink RX4 248 yX0_deepestShip ∈ lw_g := tg (tm_3 _ (List.mem_of_getElem? (i := 50) (by decide +kernel))) rfl
theorem tw_609 : Cond.instanceMethod yX0_deepestShip ∈ lw_g := tg (tm_3 _ (List.mem_of_getElem? (i := 51) (by decide +kernel))) rfl
theorem tw_610 : Cond.selects RX0 yX0_deepestShip yX0_deepestShip ∈ lw_g := tg (tm_3 _ (List.mem_of_getElem? (i := 52) (by decide +kernel))) rfl
theorem tw_611 : Cond.code yX0_deepestShip cX0_deepestShip 4 (some .int) ∈ lw_g := tg (tm_3 _ (List.mem_of_getElem? (i := 53) (by decide +kernel))) rfl
theorem tw_612 : Cond.methodLink RX4 251 yX0_shortestGood ∈ lw_g := tg (tm_3 _ (List.mem_of_getElem? (i := 54) (by decide +kernel))) rfl
theorem tw_613 : Cond.instanceMethod yX0_shortestGood ∈ lw_g := tg (tm_3 _ (List.mem_of_getElem? (i := 55) (by decide +kernel))) rfl
theorem tw_614 : Cond.selects RX0 yX0_shortestGood yX0_shortestGood ∈ lw_g := tg (tm_3 _ (List.mem_of_getElem? (i := 56) (by decide +kernel))) rfl
theorem tw_615 : Cond.code yX0_shortestGood cX0_shortestGood 3 (some .int) ∈ lw_g := tg (tm_3 _ (List.mem_of_getElem? (i := 57) (by decide +kernel))) rfl
theorem tw_616 : Cond.methodLink RX4 254 yX0_plenty ∈ lw_g := tg (tm_3 _ (List.mem_of_getElem? (i := 58) (by decide +kernel))) rfl
theorem tw_617 : Cond.instanceMethod yX0_plenty ∈ lw_g := tg (tm_3 _ (List.mem_of_getElem? (i := 59) (by decide +kernel))) rfl
theorem tw_618 : Cond.selects RX0 yX0_plenty yX0_plenty ∈ lw_g := tg (tm_3 _ (List.mem_of_getElem? (i := 60) (by decide +kernel))) rfl
theorem tw_619 : Cond.code yX0_plenty cX0_plenty 3 (some .int) ∈ lw_g := tg (tm_3 _ (List.mem_of_getElem? (i := 61) (by decide +kernel))) rfl
theorem tw_620 : Cond.methodLink RX4 257 yX0_twins ∈ lw_g := tg (tm_3 _ (List.mem_of_getElem? (i := 62) (by decide +kernel))) rfl
theorem tw_621 : Cond.instanceMethod yX0_twins ∈ lw_g := tg (tm_3 _ (List.mem_of_getElem? (i := 63) (by decide +kernel))) rfl
theorem tw_622 : Cond.selects RX0 yX0_twins yX0_twins ∈ lw_g := tg (tm_3 _ (List.mem_of_getElem? (i := 64) (by decide +kernel))) rfl
theorem tw_623 : Cond.code yX0_twins cX0_twins 4 (some .int) ∈ lw_g := tg (tm_3 _ (List.mem_of_getElem? (i := 65) (by decide +kernel))) rfl
theorem tw_624 : Cond.methodLink RL 135 yX4_mean ∈ lw_g := tg (tm_3 _ (List.mem_of_getElem? (i := 66) (by decide +kernel))) rfl
theorem tw_625 : Cond.instanceMethod yX4_mean ∈ lw_g := tg (tm_3 _ (List.mem_of_getElem? (i := 67) (by decide +kernel))) rfl
theorem tw_626 : Cond.selects RX4 yX4_mean yX4_mean ∈ lw_g := tg (tm_3 _ (List.mem_of_getElem? (i := 68) (by decide +kernel))) rfl
theorem tw_627 : Cond.code yX4_mean cX4_mean 4 (some .long) ∈ lw_g := tg (tm_3 _ (List.mem_of_getElem? (i := 69) (by decide +kernel))) rfl
theorem tw_628 : Cond.methodLink RX4 260 Lib.Math.max.name ∈ lw_g := tg (tm_3 _ (List.mem_of_getElem? (i := 70) (by decide +kernel))) rfl
theorem tw_629 : Cond.methodLink RL 140 yX4_hidden ∈ lw_g := tg (tm_3 _ (List.mem_of_getElem? (i := 71) (by decide +kernel))) rfl
theorem tw_630 : Cond.instanceMethod yX4_hidden ∈ lw_g := tg (tm_3 _ (List.mem_of_getElem? (i := 72) (by decide +kernel))) rfl
theorem tw_631 : Cond.selects RX4 yX4_hidden yX4_hidden ∈ lw_g := tg (tm_3 _ (List.mem_of_getElem? (i := 73) (by decide +kernel))) rfl
theorem tw_632 : Cond.code yX4_hidden cX4_hidden 3 (some .int) ∈ lw_g := tg (tm_3 _ (List.mem_of_getElem? (i := 74) (by decide +kernel))) rfl
theorem tw_633 : Cond.methodLink RL 144 yX4_nextTide ∈ lw_g := tg (tm_3 _ (List.mem_of_getElem? (i := 75) (by decide +kernel))) rfl
theorem tw_634 : Cond.instanceMethod yX4_nextTide ∈ lw_g := tg (tm_3 _ (List.mem_of_getElem? (i := 76) (by decide +kernel))) rfl
theorem tw_635 : Cond.selects RX4 yX4_nextTide yX4_nextTide ∈ lw_g := tg (tm_3 _ (List.mem_of_getElem? (i := 77) (by decide +kernel))) rfl
theorem tw_636 : Cond.code yX4_nextTide cX4_nextTide 4 (some .int) ∈ lw_g := tg (tm_3 _ (List.mem_of_getElem? (i := 78) (by decide +kernel))) rfl
theorem tw_637 : Cond.methodLink RL 148 yX4_empty ∈ lw_g := tg (tm_3 _ (List.mem_of_getElem? (i := 79) (by decide +kernel))) rfl
theorem tw_638 : Cond.instanceMethod yX4_empty ∈ lw_g := tg (tm_3 _ (List.mem_of_getElem? (i := 80) (by decide +kernel))) rfl
theorem tw_639 : Cond.selects RX4 yX4_empty yX4_empty ∈ lw_g := tg (tm_3 _ (List.mem_of_getElem? (i := 81) (by decide +kernel))) rfl
theorem tw_640 : Cond.code yX4_empty cX4_empty 3 (some .int) ∈ lw_g := tg (tm_3 _ (List.mem_of_getElem? (i := 82) (by decide +kernel))) rfl
theorem tw_641 : Cond.methodLink RL 152 yX4_carried ∈ lw_g := tg (tm_3 _ (List.mem_of_getElem? (i := 83) (by decide +kernel))) rfl
theorem tw_642 : Cond.instanceMethod yX4_carried ∈ lw_g := tg (tm_3 _ (List.mem_of_getElem? (i := 84) (by decide +kernel))) rfl
theorem tw_643 : Cond.selects RX4 yX4_carried yX4_carried ∈ lw_g := tg (tm_3 _ (List.mem_of_getElem? (i := 85) (by decide +kernel))) rfl
theorem tw_644 : Cond.code yX4_carried cX4_carried 4 (some .int) ∈ lw_g := tg (tm_3 _ (List.mem_of_getElem? (i := 86) (by decide +kernel))) rfl
theorem tw_645 : Cond.methodLink RX4 263 yX0_brings ∈ lw_g := tg (tm_3 _ (List.mem_of_getElem? (i := 87) (by decide +kernel))) rfl
theorem tw_646 : Cond.methodLink RL 156 yX4_filled ∈ lw_g := tg (tm_3 _ (List.mem_of_getElem? (i := 88) (by decide +kernel))) rfl
theorem tw_647 : Cond.instanceMethod yX4_filled ∈ lw_g := tg (tm_3 _ (List.mem_of_getElem? (i := 89) (by decide +kernel))) rfl
theorem tw_648 : Cond.selects RX4 yX4_filled yX4_filled ∈ lw_g := tg (tm_3 _ (List.mem_of_getElem? (i := 90) (by decide +kernel))) rfl
theorem tw_649 : Cond.code yX4_filled cX4_filled 4 (some .int) ∈ lw_g := tg (tm_3 _ (List.mem_of_getElem? (i := 91) (by decide +kernel))) rfl
theorem tw_650 : Cond.methodLink RX4 266 yX0_letIn ∈ lw_g := tg (tm_3 _ (List.mem_of_getElem? (i := 92) (by decide +kernel))) rfl
theorem tw_651 : Cond.methodLink RL 160 yX4_spared ∈ lw_g := tg (tm_3 _ (List.mem_of_getElem? (i := 93) (by decide +kernel))) rfl
theorem tw_652 : Cond.instanceMethod yX4_spared ∈ lw_g := tg (tm_3 _ (List.mem_of_getElem? (i := 94) (by decide +kernel))) rfl
theorem tw_653 : Cond.selects RX4 yX4_spared yX4_spared ∈ lw_g := tg (tm_3 _ (List.mem_of_getElem? (i := 95) (by decide +kernel))) rfl
theorem tw_654 : Cond.code yX4_spared cX4_spared 6 (some .int) ∈ lw_g := tg (tm_3 _ (List.mem_of_getElem? (i := 96) (by decide +kernel))) rfl
theorem tw_655 : (Jvm.Cond.constant "TakesWhatItLacks" (269 : Nat) (1000000000 : Int32)) ∈ lw_g := tg (tm_3 _ (List.mem_of_getElem? (i := 97) (by decide +kernel))) rfl
theorem tw_656 : Cond.methodLink RL 164 yX4_race ∈ lw_g := tg (tm_3 _ (List.mem_of_getElem? (i := 98) (by decide +kernel))) rfl
theorem tw_657 : Cond.instanceMethod yX4_race ∈ lw_g := tg (tm_3 _ (List.mem_of_getElem? (i := 99) (by decide +kernel))) rfl
theorem tw_658 : Cond.selects RX4 yX4_race yX4_race ∈ lw_g := tg (tm_3 _ (List.mem_of_getElem? (i := 100) (by decide +kernel))) rfl
theorem tw_659 : Cond.code yX4_race cX4_race 7 (some .int) ∈ lw_g := tg (tm_3 _ (List.mem_of_getElem? (i := 101) (by decide +kernel))) rfl
theorem tw_660 : Cond.methodLink RL 168 yX4_row ∈ lw_g := tg (tm_3 _ (List.mem_of_getElem? (i := 102) (by decide +kernel))) rfl
theorem tw_661 : Cond.instanceMethod yX4_row ∈ lw_g := tg (tm_3 _ (List.mem_of_getElem? (i := 103) (by decide +kernel))) rfl
theorem tw_662 : Cond.selects RX4 yX4_row yX4_row ∈ lw_g := tg (tm_3 _ (List.mem_of_getElem? (i := 104) (by decide +kernel))) rfl
theorem tw_663 : Cond.code yX4_row cX4_row 3 (some .int) ∈ lw_g := tg (tm_3 _ (List.mem_of_getElem? (i := 105) (by decide +kernel))) rfl
theorem tw_664 : Cond.methodLink RL 172 yX4_judge ∈ lw_g := tg (tm_3 _ (List.mem_of_getElem? (i := 106) (by decide +kernel))) rfl
theorem tw_665 : Cond.instanceMethod yX4_judge ∈ lw_g := tg (tm_3 _ (List.mem_of_getElem? (i := 107) (by decide +kernel))) rfl
theorem tw_666 : Cond.selects RX4 yX4_judge yX4_judge ∈ lw_g := tg (tm_3 _ (List.mem_of_getElem? (i := 108) (by decide +kernel))) rfl
theorem tw_667 : Cond.code yX4_judge cX4_judge 3 (some .int) ∈ lw_g := tg (tm_3 _ (List.mem_of_getElem? (i := 109) (by decide +kernel))) rfl
theorem tw_668 : Cond.methodLink RL 176 yX4_clear ∈ lw_g := tg (tm_3 _ (List.mem_of_getElem? (i := 110) (by decide +kernel))) rfl
theorem tw_669 : Cond.instanceMethod yX4_clear ∈ lw_g := tg (tm_3 _ (List.mem_of_getElem? (i := 111) (by decide +kernel))) rfl
theorem tw_670 : Cond.selects RX4 yX4_clear yX4_clear ∈ lw_g := tg (tm_3 _ (List.mem_of_getElem? (i := 112) (by decide +kernel))) rfl
theorem tw_671 : Cond.code yX4_clear cX4_clear 2 (some .int) ∈ lw_g := tg (tm_3 _ (List.mem_of_getElem? (i := 113) (by decide +kernel))) rfl
theorem tw_672 : Cond.methodLink RL 184 yX4_image ∈ lw_g := tg (tm_3 _ (List.mem_of_getElem? (i := 114) (by decide +kernel))) rfl
theorem tw_673 : Cond.instanceMethod yX4_image ∈ lw_g := tg (tm_3 _ (List.mem_of_getElem? (i := 115) (by decide +kernel))) rfl
theorem tw_674 : Cond.selects RX4 yX4_image yX4_image ∈ lw_g := tg (tm_3 _ (List.mem_of_getElem? (i := 116) (by decide +kernel))) rfl
theorem tw_675 : Cond.code yX4_image cX4_image 1 (some .int) ∈ lw_g := tg (tm_3 _ (List.mem_of_getElem? (i := 117) (by decide +kernel))) rfl
theorem tw_676 : Cond.methodLink RL 188 yX4_restore ∈ lw_g := tg (tm_3 _ (List.mem_of_getElem? (i := 118) (by decide +kernel))) rfl
theorem tw_677 : Cond.instanceMethod yX4_restore ∈ lw_g := tg (tm_3 _ (List.mem_of_getElem? (i := 119) (by decide +kernel))) rfl
theorem tw_678 : Cond.selects RX4 yX4_restore yX4_restore ∈ lw_g := tg (tm_3 _ (List.mem_of_getElem? (i := 120) (by decide +kernel))) rfl
theorem tw_679 : Cond.code yX4_restore cX4_restore 1 (some .int) ∈ lw_g := tg (tm_3 _ (List.mem_of_getElem? (i := 121) (by decide +kernel))) rfl
theorem tw_680 : Cond.methodLink RL 192 yX4_count ∈ lw_g := tg (tm_3 _ (List.mem_of_getElem? (i := 122) (by decide +kernel))) rfl
theorem tw_681 : Cond.instanceMethod yX4_count ∈ lw_g := tg (tm_3 _ (List.mem_of_getElem? (i := 123) (by decide +kernel))) rfl
theorem tw_682 : Cond.selects RX4 yX4_count yX4_count ∈ lw_g := tg (tm_3 _ (List.mem_of_getElem? (i := 124) (by decide +kernel))) rfl
theorem tw_683 : Cond.code yX4_count cX4_count 3 (some .int) ∈ lw_g := tg (tm_3 _ (List.mem_of_getElem? (i := 125) (by decide +kernel))) rfl
theorem tw_684 : Cond.classLink RL 10 RX5 ∈ lw_g := tg (tm_3 _ (List.mem_of_getElem? (i := 126) (by decide +kernel))) rfl
theorem tw_685 : Cond.instantiable RX5 34 ∈ lw_g := tg (tm_3 _ (List.mem_of_getElem? (i := 127) (by decide +kernel))) rfl
theorem tw_686 : Cond.methodLink RL 12 yX5_init ∈ lw_g := tg (tm_3 _ (List.mem_of_getElem? (i := 128) (by decide +kernel))) rfl
theorem tw_687 : Cond.instanceMethod yX5_init ∈ lw_g := tg (tm_3 _ (List.mem_of_getElem? (i := 129) (by decide +kernel))) rfl
theorem tw_688 : Cond.code yX5_init cX5_init 2 (none) ∈ lw_g := tg (tm_3 _ (List.mem_of_getElem? (i := 130) (by decide +kernel))) rfl
theorem tw_689 : Cond.methodLink RX5 1 objectInit ∈ lw_g := tg (tm_3 _ (List.mem_of_getElem? (i := 131) (by decide +kernel))) rfl
theorem tw_690 : Cond.fieldLink RX5 7 "TakesWhatItLacksModel" "refused" "[I" ∈ lw_g := tg (tm_3 _ (List.mem_of_getElem? (i := 132) (by decide +kernel))) rfl
theorem tw_691 : Cond.fieldLink RX5 13 "TakesWhatItLacksModel" "there" "[I" ∈ lw_g := tg (tm_3 _ (List.mem_of_getElem? (i := 133) (by decide +kernel))) rfl
theorem tw_692 : Cond.fieldLink RX5 16 "TakesWhatItLacksModel" "used" "[I" ∈ lw_g := tg (tm_3 _ (List.mem_of_getElem? (i := 134) (by decide +kernel))) rfl
theorem tw_693 : Cond.fieldLink RX5 19 "TakesWhatItLacksModel" "hidden" "[I" ∈ lw_g := tg (tm_3 _ (List.mem_of_getElem? (i := 135) (by decide +kernel))) rfl
theorem tw_694 : Cond.fieldLink RX5 22 "TakesWhatItLacksModel" "kind" "[I" ∈ lw_g := tg (tm_3 _ (List.mem_of_getElem? (i := 136) (by decide +kernel))) rfl
theorem tw_695 : Cond.fieldLink RX5 25 "TakesWhatItLacksModel" "figure" "[I" ∈ lw_g := tg (tm_3 _ (List.mem_of_getElem? (i := 137) (by decide +kernel))) rfl
theorem tw_696 : Cond.fieldLink RX5 28 "TakesWhatItLacksModel" "good" "[I" ∈ lw_g := tg (tm_3 _ (List.mem_of_getElem? (i := 138) (by decide +kernel))) rfl
theorem tw_697 : Cond.fieldLink RX5 31 "TakesWhatItLacksModel" "load" "[I" ∈ lw_g := tg (tm_3 _ (List.mem_of_getElem? (i := 139) (by decide +kernel))) rfl
theorem tw_698 : Cond.fieldLink RX5 34 "TakesWhatItLacksModel" "in" "[I" ∈ lw_g := tg (tm_3 _ (List.mem_of_getElem? (i := 140) (by decide +kernel))) rfl
theorem tw_699 : Cond.fieldLink RX5 65 "TakesWhatItLacksModel" "ships" "I" ∈ lw_g := tg (tm_3 _ (List.mem_of_getElem? (i := 141) (by decide +kernel))) rfl
theorem tw_700 : Cond.fieldLink RX5 131 "TakesWhatItLacksModel" "coughs" "I" ∈ lw_g := tg (tm_3 _ (List.mem_of_getElem? (i := 142) (by decide +kernel))) rfl
theorem tw_701 : Cond.fieldLink RX5 118 "TakesWhatItLacksModel" "day" "I" ∈ lw_g := tg (tm_3 _ (List.mem_of_getElem? (i := 143) (by decide +kernel))) rfl
theorem tw_702 : Cond.fieldLink RX5 193 "TakesWhatItLacksModel" "away" "I" ∈ lw_g := tg (tm_3 _ (List.mem_of_getElem? (i := 144) (by decide +kernel))) rfl
theorem tw_703 : Cond.fieldLink RX5 37 "TakesWhatItLacksModel" "tape" "[I" ∈ lw_g := tg (tm_3 _ (List.mem_of_getElem? (i := 145) (by decide +kernel))) rfl
theorem tw_704 : Cond.fieldLink RX5 40 "TakesWhatItLacksModel" "letter" "[I" ∈ lw_g := tg (tm_3 _ (List.mem_of_getElem? (i := 146) (by decide +kernel))) rfl
theorem tw_705 : Cond.fieldLink RX5 43 "TakesWhatItLacksModel" "letterAt" "[I" ∈ lw_g := tg (tm_3 _ (List.mem_of_getElem? (i := 147) (by decide +kernel))) rfl
theorem tw_706 : Cond.fieldLink RX5 46 "TakesWhatItLacksModel" "told" "[I" ∈ lw_g := tg (tm_3 _ (List.mem_of_getElem? (i := 148) (by decide +kernel))) rfl
theorem tw_707 : Cond.fieldLink RX5 72 "TakesWhatItLacksModel" "taped" "I" ∈ lw_g := tg (tm_3 _ (List.mem_of_getElem? (i := 149) (by decide +kernel))) rfl
theorem tw_708 : Cond.fieldLink RX5 79 "TakesWhatItLacksModel" "reading" "I" ∈ lw_g := tg (tm_3 _ (List.mem_of_getElem? (i := 150) (by decide +kernel))) rfl
theorem tw_709 : Cond.fieldLink RX5 94 "TakesWhatItLacksModel" "statements" "I" ∈ lw_g := tg (tm_3 _ (List.mem_of_getElem? (i := 151) (by decide +kernel))) rfl
theorem tw_710 : Cond.fieldLink RX5 49 "TakesWhatItLacksModel" "kept" "[I" ∈ lw_g := tg (tm_3 _ (List.mem_of_getElem? (i := 152) (by decide +kernel))) rfl
theorem tw_711 : Cond.fieldLink RX5 168 "TakesWhatItLacksModel" "hasImage" "Z" ∈ lw_g := tg (tm_3 _ (List.mem_of_getElem? (i := 153) (by decide +kernel))) rfl
theorem tw_712 : Cond.fieldLink RX5 154 "TakesWhatItLacksModel" "isKeeping" "Z" ∈ lw_g := tg (tm_3 _ (List.mem_of_getElem? (i := 154) (by decide +kernel))) rfl
theorem tw_713 : Cond.fieldLink RX5 158 "TakesWhatItLacksModel" "cursor" "I" ∈ lw_g := tg (tm_3 _ (List.mem_of_getElem? (i := 155) (by decide +kernel))) rfl
theorem tw_714 : Cond.fieldLink RX5 151 "TakesWhatItLacksModel" "backs" "I" ∈ lw_g := tg (tm_3 _ (List.mem_of_getElem? (i := 156) (by decide +kernel))) rfl
theorem tw_715 : Cond.fieldLink RX5 52 "TakesWhatItLacksModel" "free" "I" ∈ lw_g := tg (tm_3 _ (List.mem_of_getElem? (i := 157) (by decide +kernel))) rfl
theorem tw_716 : Cond.fieldLink RX5 245 "TakesWhatItLacksModel" "goodFor" "I" ∈ lw_g := tg (tm_3 _ (List.mem_of_getElem? (i := 158) (by decide +kernel))) rfl
theorem tw_717 : Cond.fieldLink RX5 248 "TakesWhatItLacksModel" "loadedWhen" "I" ∈ lw_g := tg (tm_3 _ (List.mem_of_getElem? (i := 159) (by decide +kernel))) rfl
theorem tw_718 : Cond.fieldLink RX5 276 "TakesWhatItLacksModel" "bareGood" "I" ∈ lw_g := tg (tm_3 _ (List.mem_of_getElem? (i := 160) (by decide +kernel))) rfl
theorem tw_719 : Cond.fieldLink RX5 279 "TakesWhatItLacksModel" "bareWhen" "I" ∈ lw_g := tg (tm_3 _ (List.mem_of_getElem? (i := 161) (by decide +kernel))) rfl
theorem tw_720 : Cond.fieldLink RX5 56 "TakesWhatItLacksModel" "row" "[I" ∈ lw_g := tg (tm_3 _ (List.mem_of_getElem? (i := 162) (by decide +kernel))) rfl
theorem tw_721 : Cond.fieldLink RX5 285 "TakesWhatItLacksModel" "rowMany" "I" ∈ lw_g := tg (tm_3 _ (List.mem_of_getElem? (i := 163) (by decide +kernel))) rfl
theorem tw_722 : Cond.fieldLink RX5 59 "TakesWhatItLacksModel" "costs" "[I" ∈ lw_g := tg (tm_3 _ (List.mem_of_getElem? (i := 164) (by decide +kernel))) rfl
theorem tw_723 : Cond.fieldLink RX5 332 "TakesWhatItLacksModel" "lots" "I" ∈ lw_g := tg (tm_3 _ (List.mem_of_getElem? (i := 165) (by decide +kernel))) rfl
theorem tw_724 : Cond.laysFinal RX5 "TakesWhatItLacksModel" "refused" "[I" ∈ lw_g := tg (tm_3 _ (List.mem_of_getElem? (i := 166) (by decide +kernel))) rfl
theorem tw_726 : Cond.laysFinal RX5 "TakesWhatItLacksModel" "there" "[I" ∈ lw_g := tg (tm_3 _ (List.mem_of_getElem? (i := 168) (by decide +kernel))) rfl
theorem tw_728 : Cond.laysFinal RX5 "TakesWhatItLacksModel" "used" "[I" ∈ lw_g := tg (tm_3 _ (List.mem_of_getElem? (i := 170) (by decide +kernel))) rfl
theorem tw_730 : Cond.laysFinal RX5 "TakesWhatItLacksModel" "hidden" "[I" ∈ lw_g := tg (tm_3 _ (List.mem_of_getElem? (i := 172) (by decide +kernel))) rfl
theorem tw_732 : Cond.laysFinal RX5 "TakesWhatItLacksModel" "kind" "[I" ∈ lw_g := tg (tm_3 _ (List.mem_of_getElem? (i := 174) (by decide +kernel))) rfl
theorem tw_734 : Cond.laysFinal RX5 "TakesWhatItLacksModel" "figure" "[I" ∈ lw_g := tg (tm_3 _ (List.mem_of_getElem? (i := 176) (by decide +kernel))) rfl
theorem tw_736 : Cond.laysFinal RX5 "TakesWhatItLacksModel" "good" "[I" ∈ lw_g := tg (tm_3 _ (List.mem_of_getElem? (i := 178) (by decide +kernel))) rfl
theorem tw_738 : Cond.laysFinal RX5 "TakesWhatItLacksModel" "load" "[I" ∈ lw_g := tg (tm_3 _ (List.mem_of_getElem? (i := 180) (by decide +kernel))) rfl
theorem tw_740 : Cond.laysFinal RX5 "TakesWhatItLacksModel" "in" "[I" ∈ lw_g := tg (tm_3 _ (List.mem_of_getElem? (i := 182) (by decide +kernel))) rfl
theorem tw_742 : Cond.lays RX5 "TakesWhatItLacksModel" "ships" "I" ∈ lw_g := tg (tm_3 _ (List.mem_of_getElem? (i := 184) (by decide +kernel))) rfl
theorem tw_744 : Cond.lays RX5 "TakesWhatItLacksModel" "coughs" "I" ∈ lw_g := tg (tm_3 _ (List.mem_of_getElem? (i := 186) (by decide +kernel))) rfl
theorem tw_746 : Cond.lays RX5 "TakesWhatItLacksModel" "day" "I" ∈ lw_g := tg (tm_3 _ (List.mem_of_getElem? (i := 188) (by decide +kernel))) rfl
theorem tw_748 : Cond.lays RX5 "TakesWhatItLacksModel" "away" "I" ∈ lw_g := tg (tm_3 _ (List.mem_of_getElem? (i := 190) (by decide +kernel))) rfl
theorem tw_750 : Cond.laysFinal RX5 "TakesWhatItLacksModel" "tape" "[I" ∈ lw_g := tg (tm_3 _ (List.mem_of_getElem? (i := 192) (by decide +kernel))) rfl
theorem tw_752 : Cond.laysFinal RX5 "TakesWhatItLacksModel" "letter" "[I" ∈ lw_g := tg (tm_3 _ (List.mem_of_getElem? (i := 194) (by decide +kernel))) rfl
theorem tw_754 : Cond.laysFinal RX5 "TakesWhatItLacksModel" "letterAt" "[I" ∈ lw_g := tg (tm_3 _ (List.mem_of_getElem? (i := 196) (by decide +kernel))) rfl
theorem tw_756 : Cond.laysFinal RX5 "TakesWhatItLacksModel" "told" "[I" ∈ lw_g := tg (tm_3 _ (List.mem_of_getElem? (i := 198) (by decide +kernel))) rfl
theorem tw_758 : Cond.lays RX5 "TakesWhatItLacksModel" "taped" "I" ∈ lw_g := tg (tm_3 _ (List.mem_of_getElem? (i := 200) (by decide +kernel))) rfl
theorem tw_760 : Cond.lays RX5 "TakesWhatItLacksModel" "reading" "I" ∈ lw_g := tg (tm_3 _ (List.mem_of_getElem? (i := 202) (by decide +kernel))) rfl
theorem tw_762 : Cond.lays RX5 "TakesWhatItLacksModel" "statements" "I" ∈ lw_g := tg (tm_3 _ (List.mem_of_getElem? (i := 204) (by decide +kernel))) rfl
theorem tw_764 : Cond.laysFinal RX5 "TakesWhatItLacksModel" "kept" "[I" ∈ lw_g := tg (tm_3 _ (List.mem_of_getElem? (i := 206) (by decide +kernel))) rfl
theorem tw_766 : Cond.lays RX5 "TakesWhatItLacksModel" "hasImage" "Z" ∈ lw_g := tg (tm_3 _ (List.mem_of_getElem? (i := 208) (by decide +kernel))) rfl
theorem tw_768 : Cond.lays RX5 "TakesWhatItLacksModel" "isKeeping" "Z" ∈ lw_g := tg (tm_3 _ (List.mem_of_getElem? (i := 210) (by decide +kernel))) rfl
theorem tw_770 : Cond.lays RX5 "TakesWhatItLacksModel" "cursor" "I" ∈ lw_g := tg (tm_3 _ (List.mem_of_getElem? (i := 212) (by decide +kernel))) rfl
theorem tw_772 : Cond.lays RX5 "TakesWhatItLacksModel" "backs" "I" ∈ lw_g := tg (tm_3 _ (List.mem_of_getElem? (i := 214) (by decide +kernel))) rfl
theorem tw_774 : Cond.lays RX5 "TakesWhatItLacksModel" "free" "I" ∈ lw_g := tg (tm_3 _ (List.mem_of_getElem? (i := 216) (by decide +kernel))) rfl
theorem tw_776 : Cond.lays RX5 "TakesWhatItLacksModel" "goodFor" "I" ∈ lw_g := tg (tm_3 _ (List.mem_of_getElem? (i := 218) (by decide +kernel))) rfl
theorem tw_778 : Cond.lays RX5 "TakesWhatItLacksModel" "loadedWhen" "I" ∈ lw_g := tg (tm_3 _ (List.mem_of_getElem? (i := 220) (by decide +kernel))) rfl
theorem tw_780 : Cond.lays RX5 "TakesWhatItLacksModel" "bareGood" "I" ∈ lw_g := tg (tm_3 _ (List.mem_of_getElem? (i := 222) (by decide +kernel))) rfl
theorem tw_782 : Cond.lays RX5 "TakesWhatItLacksModel" "bareWhen" "I" ∈ lw_g := tg (tm_3 _ (List.mem_of_getElem? (i := 224) (by decide +kernel))) rfl
theorem tw_784 : Cond.laysFinal RX5 "TakesWhatItLacksModel" "row" "[I" ∈ lw_g := tg (tm_3 _ (List.mem_of_getElem? (i := 226) (by decide +kernel))) rfl
theorem tw_786 : Cond.lays RX5 "TakesWhatItLacksModel" "rowMany" "I" ∈ lw_g := tg (tm_3 _ (List.mem_of_getElem? (i := 228) (by decide +kernel))) rfl
theorem tw_788 : Cond.laysFinal RX5 "TakesWhatItLacksModel" "costs" "[I" ∈ lw_g := tg (tm_3 _ (List.mem_of_getElem? (i := 230) (by decide +kernel))) rfl
theorem tw_790 : Cond.lays RX5 "TakesWhatItLacksModel" "lots" "I" ∈ lw_g := tg (tm_3 _ (List.mem_of_getElem? (i := 232) (by decide +kernel))) rfl
theorem tw_793 : Cond.methodLink RL 17 yX5_feed ∈ lw_g := tg (tm_3 _ (List.mem_of_getElem? (i := 235) (by decide +kernel))) rfl
theorem tw_794 : Cond.instanceMethod yX5_feed ∈ lw_g := tg (tm_3 _ (List.mem_of_getElem? (i := 236) (by decide +kernel))) rfl
theorem tw_795 : Cond.selects RX5 yX5_feed yX5_feed ∈ lw_g := tg (tm_3 _ (List.mem_of_getElem? (i := 237) (by decide +kernel))) rfl
theorem tw_796 : Cond.code yX5_feed cX5_feed 3 (some .int) ∈ lw_g := tg (tm_3 _ (List.mem_of_getElem? (i := 238) (by decide +kernel))) rfl
theorem tw_797 : Cond.methodLink RX5 68 yX5_bound ∈ lw_g := tg (tm_3 _ (List.mem_of_getElem? (i := 239) (by decide +kernel))) rfl
theorem tw_798 : Cond.static yX5_bound ∈ lw_g := tg (tm_4 _ (List.mem_of_getElem? (i := 0) (by decide +kernel))) rfl
theorem tw_799 : Cond.code yX5_bound cX5_bound 3 (some .int) ∈ lw_g := tg (tm_4 _ (List.mem_of_getElem? (i := 1) (by decide +kernel))) rfl
theorem tw_800 : Cond.methodLink RX5 75 yX5_no ∈ lw_g := tg (tm_4 _ (List.mem_of_getElem? (i := 2) (by decide +kernel))) rfl
theorem tw_802 : Cond.instanceMethod yX5_no ∈ lw_g := tg (tm_4 _ (List.mem_of_getElem? (i := 4) (by decide +kernel))) rfl
theorem tw_803 : Cond.code yX5_no cX5_no 2 (some .int) ∈ lw_g := tg (tm_4 _ (List.mem_of_getElem? (i := 5) (by decide +kernel))) rfl
theorem tw_804 : Cond.methodLink RL 22 yX5_harbour ∈ lw_g := tg (tm_4 _ (List.mem_of_getElem? (i := 6) (by decide +kernel))) rfl
theorem tw_805 : Cond.instanceMethod yX5_harbour ∈ lw_g := tg (tm_4 _ (List.mem_of_getElem? (i := 7) (by decide +kernel))) rfl
theorem tw_806 : Cond.selects RX5 yX5_harbour yX5_harbour ∈ lw_g := tg (tm_4 _ (List.mem_of_getElem? (i := 8) (by decide +kernel))) rfl
theorem tw_807 : Cond.code yX5_harbour cX5_harbour 3 (some .int) ∈ lw_g := tg (tm_4 _ (List.mem_of_getElem? (i := 9) (by decide +kernel))) rfl
theorem tw_808 : Cond.methodLink RX5 140 yX5_statement ∈ lw_g := tg (tm_4 _ (List.mem_of_getElem? (i := 10) (by decide +kernel))) rfl
theorem tw_810 : Cond.instanceMethod yX5_statement ∈ lw_g := tg (tm_4 _ (List.mem_of_getElem? (i := 12) (by decide +kernel))) rfl
theorem tw_811 : Cond.code yX5_statement cX5_statement 2 (some .boolean) ∈ lw_g := tg (tm_4 _ (List.mem_of_getElem? (i := 13) (by decide +kernel))) rfl
theorem tw_812 : Cond.methodLink RX5 82 yX5_next ∈ lw_g := tg (tm_4 _ (List.mem_of_getElem? (i := 14) (by decide +kernel))) rfl
theorem tw_814 : Cond.instanceMethod yX5_next ∈ lw_g := tg (tm_4 _ (List.mem_of_getElem? (i := 16) (by decide +kernel))) rfl
theorem tw_815 : Cond.code yX5_next cX5_next 1 (some .int) ∈ lw_g := tg (tm_4 _ (List.mem_of_getElem? (i := 17) (by decide +kernel))) rfl
theorem tw_816 : Cond.methodLink RX5 97 yX5_readsAll ∈ lw_g := tg (tm_4 _ (List.mem_of_getElem? (i := 18) (by decide +kernel))) rfl
theorem tw_818 : Cond.instanceMethod yX5_readsAll ∈ lw_g := tg (tm_4 _ (List.mem_of_getElem? (i := 20) (by decide +kernel))) rfl
theorem tw_819 : Cond.code yX5_readsAll cX5_readsAll 3 (some .boolean) ∈ lw_g := tg (tm_4 _ (List.mem_of_getElem? (i := 21) (by decide +kernel))) rfl
theorem tw_820 : Cond.methodLink RX5 90 yX5_readsDigits ∈ lw_g := tg (tm_4 _ (List.mem_of_getElem? (i := 22) (by decide +kernel))) rfl
theorem tw_822 : Cond.instanceMethod yX5_readsDigits ∈ lw_g := tg (tm_4 _ (List.mem_of_getElem? (i := 24) (by decide +kernel))) rfl
theorem tw_823 : Cond.code yX5_readsDigits cX5_readsDigits 5 (some .boolean) ∈ lw_g := tg (tm_4 _ (List.mem_of_getElem? (i := 25) (by decide +kernel))) rfl
theorem tw_824 : Cond.methodLink RX5 86 yX5_isIn ∈ lw_g := tg (tm_4 _ (List.mem_of_getElem? (i := 26) (by decide +kernel))) rfl
theorem tw_825 : Cond.static yX5_isIn ∈ lw_g := tg (tm_4 _ (List.mem_of_getElem? (i := 27) (by decide +kernel))) rfl
theorem tw_826 : Cond.code yX5_isIn cX5_isIn 3 (some .boolean) ∈ lw_g := tg (tm_4 _ (List.mem_of_getElem? (i := 28) (by decide +kernel))) rfl
theorem tw_827 : Cond.methodLink RX5 144 yX5_passesAll ∈ lw_g := tg (tm_4 _ (List.mem_of_getElem? (i := 29) (by decide +kernel))) rfl
theorem tw_829 : Cond.instanceMethod yX5_passesAll ∈ lw_g := tg (tm_4 _ (List.mem_of_getElem? (i := 31) (by decide +kernel))) rfl
theorem tw_830 : Cond.code yX5_passesAll cX5_passesAll 3 (none) ∈ lw_g := tg (tm_4 _ (List.mem_of_getElem? (i := 32) (by decide +kernel))) rfl
theorem tw_831 : Cond.methodLink RX5 161 yX5_passes ∈ lw_g := tg (tm_4 _ (List.mem_of_getElem? (i := 33) (by decide +kernel))) rfl
theorem tw_833 : Cond.instanceMethod yX5_passes ∈ lw_g := tg (tm_4 _ (List.mem_of_getElem? (i := 35) (by decide +kernel))) rfl
theorem tw_834 : Cond.code yX5_passes cX5_passes 3 (none) ∈ lw_g := tg (tm_4 _ (List.mem_of_getElem? (i := 36) (by decide +kernel))) rfl
theorem tw_835 : Cond.methodLink RX5 165 yX5_passOne ∈ lw_g := tg (tm_4 _ (List.mem_of_getElem? (i := 37) (by decide +kernel))) rfl
theorem tw_837 : Cond.instanceMethod yX5_passOne ∈ lw_g := tg (tm_4 _ (List.mem_of_getElem? (i := 39) (by decide +kernel))) rfl
theorem tw_838 : Cond.code yX5_passOne cX5_passOne 3 (some .int) ∈ lw_g := tg (tm_4 _ (List.mem_of_getElem? (i := 40) (by decide +kernel))) rfl
theorem tw_839 : Cond.methodLink RX5 148 yX5_comesTold ∈ lw_g := tg (tm_4 _ (List.mem_of_getElem? (i := 41) (by decide +kernel))) rfl
theorem tw_841 : Cond.instanceMethod yX5_comesTold ∈ lw_g := tg (tm_4 _ (List.mem_of_getElem? (i := 43) (by decide +kernel))) rfl
theorem tw_842 : Cond.code yX5_comesTold cX5_comesTold 3 (some .boolean) ∈ lw_g := tg (tm_4 _ (List.mem_of_getElem? (i := 44) (by decide +kernel))) rfl
theorem tw_843 : Cond.methodLink RX5 125 yX5_comesShip ∈ lw_g := tg (tm_4 _ (List.mem_of_getElem? (i := 45) (by decide +kernel))) rfl
theorem tw_845 : Cond.instanceMethod yX5_comesShip ∈ lw_g := tg (tm_4 _ (List.mem_of_getElem? (i := 47) (by decide +kernel))) rfl
theorem tw_846 : Cond.code yX5_comesShip cX5_comesShip 2 (some .boolean) ∈ lw_g := tg (tm_4 _ (List.mem_of_getElem? (i := 48) (by decide +kernel))) rfl
theorem tw_847 : Cond.methodLink RX5 100 yX5_isGood ∈ lw_g := tg (tm_4 _ (List.mem_of_getElem? (i := 49) (by decide +kernel))) rfl
theorem tw_848 : Cond.static yX5_isGood ∈ lw_g := tg (tm_4 _ (List.mem_of_getElem? (i := 50) (by decide +kernel))) rfl
theorem tw_849 : Cond.code yX5_isGood cX5_isGood 1 (some .boolean) ∈ lw_g := tg (tm_4 _ (List.mem_of_getElem? (i := 51) (by decide +kernel))) rfl
theorem tw_850 : Cond.methodLink RX5 104 yX5_adds ∈ lw_g := tg (tm_4 _ (List.mem_of_getElem? (i := 52) (by decide +kernel))) rfl
theorem tw_852 : Cond.instanceMethod yX5_adds ∈ lw_g := tg (tm_4 _ (List.mem_of_getElem? (i := 54) (by decide +kernel))) rfl
theorem tw_853 : Cond.code yX5_adds cX5_adds 5 (none) ∈ lw_g := tg (tm_4 _ (List.mem_of_getElem? (i := 55) (by decide +kernel))) rfl
theorem tw_854 : Cond.methodLink RX5 128 yX5_isShip ∈ lw_g := tg (tm_4 _ (List.mem_of_getElem? (i := 56) (by decide +kernel))) rfl
theorem tw_856 : Cond.instanceMethod yX5_isShip ∈ lw_g := tg (tm_4 _ (List.mem_of_getElem? (i := 58) (by decide +kernel))) rfl
theorem tw_857 : Cond.code yX5_isShip cX5_isShip 2 (some .boolean) ∈ lw_g := tg (tm_4 _ (List.mem_of_getElem? (i := 59) (by decide +kernel))) rfl
theorem tw_858 : Cond.methodLink RX5 134 yX5_comesDays ∈ lw_g := tg (tm_4 _ (List.mem_of_getElem? (i := 60) (by decide +kernel))) rfl
theorem tw_860 : Cond.instanceMethod yX5_comesDays ∈ lw_g := tg (tm_4 _ (List.mem_of_getElem? (i := 62) (by decide +kernel))) rfl
theorem tw_861 : Cond.code yX5_comesDays cX5_comesDays 2 (some .boolean) ∈ lw_g := tg (tm_4 _ (List.mem_of_getElem? (i := 63) (by decide +kernel))) rfl
theorem tw_862 : Cond.methodLink RX5 121 yX5_goes ∈ lw_g := tg (tm_4 _ (List.mem_of_getElem? (i := 64) (by decide +kernel))) rfl
theorem tw_864 : Cond.instanceMethod yX5_goes ∈ lw_g := tg (tm_4 _ (List.mem_of_getElem? (i := 66) (by decide +kernel))) rfl
theorem tw_865 : Cond.code yX5_goes cX5_goes 3 (none) ∈ lw_g := tg (tm_4 _ (List.mem_of_getElem? (i := 67) (by decide +kernel))) rfl
theorem tw_866 : Cond.methodLink RX5 211 yX5_goesDay ∈ lw_g := tg (tm_4 _ (List.mem_of_getElem? (i := 68) (by decide +kernel))) rfl
theorem tw_868 : Cond.instanceMethod yX5_goesDay ∈ lw_g := tg (tm_4 _ (List.mem_of_getElem? (i := 70) (by decide +kernel))) rfl
theorem tw_869 : Cond.code yX5_goesDay cX5_goesDay 3 (none) ∈ lw_g := tg (tm_4 _ (List.mem_of_getElem? (i := 71) (by decide +kernel))) rfl
theorem tw_870 : Cond.methodLink RX5 205 yX5_canCome ∈ lw_g := tg (tm_4 _ (List.mem_of_getElem? (i := 72) (by decide +kernel))) rfl
theorem tw_872 : Cond.instanceMethod yX5_canCome ∈ lw_g := tg (tm_4 _ (List.mem_of_getElem? (i := 74) (by decide +kernel))) rfl
theorem tw_873 : Cond.code yX5_canCome cX5_canCome 2 (some .boolean) ∈ lw_g := tg (tm_4 _ (List.mem_of_getElem? (i := 75) (by decide +kernel))) rfl
theorem tw_874 : Cond.methodLink RX5 196 yX5_has ∈ lw_g := tg (tm_4 _ (List.mem_of_getElem? (i := 76) (by decide +kernel))) rfl
theorem tw_875 : Cond.static yX5_has ∈ lw_g := tg (tm_4 _ (List.mem_of_getElem? (i := 77) (by decide +kernel))) rfl
theorem tw_876 : Cond.code yX5_has cX5_has 2 (some .boolean) ∈ lw_g := tg (tm_4 _ (List.mem_of_getElem? (i := 78) (by decide +kernel))) rfl
theorem tw_877 : Cond.methodLink RX5 199 yX5_depth ∈ lw_g := tg (tm_4 _ (List.mem_of_getElem? (i := 79) (by decide +kernel))) rfl
theorem tw_879 : Cond.instanceMethod yX5_depth ∈ lw_g := tg (tm_4 _ (List.mem_of_getElem? (i := 81) (by decide +kernel))) rfl
theorem tw_880 : Cond.code yX5_depth cX5_depth 2 (some .int) ∈ lw_g := tg (tm_4 _ (List.mem_of_getElem? (i := 82) (by decide +kernel))) rfl
theorem tw_881 : Cond.methodLink RX5 180 yX5_tideOf ∈ lw_g := tg (tm_4 _ (List.mem_of_getElem? (i := 83) (by decide +kernel))) rfl
theorem tw_882 : Cond.static yX5_tideOf ∈ lw_g := tg (tm_4 _ (List.mem_of_getElem? (i := 84) (by decide +kernel))) rfl
theorem tw_883 : Cond.code yX5_tideOf cX5_tideOf 1 (some .int) ∈ lw_g := tg (tm_4 _ (List.mem_of_getElem? (i := 85) (by decide +kernel))) rfl
theorem tw_884 : Cond.methodLink RX5 183 yX5_sinks ∈ lw_g := tg (tm_4 _ (List.mem_of_getElem? (i := 86) (by decide +kernel))) rfl
theorem tw_886 : Cond.instanceMethod yX5_sinks ∈ lw_g := tg (tm_4 _ (List.mem_of_getElem? (i := 88) (by decide +kernel))) rfl
theorem tw_887 : Cond.code yX5_sinks cX5_sinks 3 (some .int) ∈ lw_g := tg (tm_4 _ (List.mem_of_getElem? (i := 89) (by decide +kernel))) rfl
theorem tw_888 : Cond.methodLink RX5 171 yX5_lack ∈ lw_g := tg (tm_4 _ (List.mem_of_getElem? (i := 90) (by decide +kernel))) rfl
theorem tw_890 : Cond.instanceMethod yX5_lack ∈ lw_g := tg (tm_4 _ (List.mem_of_getElem? (i := 92) (by decide +kernel))) rfl
theorem tw_891 : Cond.code yX5_lack cX5_lack 2 (some .int) ∈ lw_g := tg (tm_4 _ (List.mem_of_getElem? (i := 93) (by decide +kernel))) rfl
theorem tw_892 : Cond.methodLink RX5 174 yX5_following ∈ lw_g := tg (tm_4 _ (List.mem_of_getElem? (i := 94) (by decide +kernel))) rfl
theorem tw_894 : Cond.instanceMethod yX5_following ∈ lw_g := tg (tm_4 _ (List.mem_of_getElem? (i := 96) (by decide +kernel))) rfl
theorem tw_895 : Cond.code yX5_following cX5_following 2 (some .int) ∈ lw_g := tg (tm_4 _ (List.mem_of_getElem? (i := 97) (by decide +kernel))) rfl
theorem tw_896 : Cond.methodLink RX5 177 yX5_plenty ∈ lw_g := tg (tm_4 _ (List.mem_of_getElem? (i := 98) (by decide +kernel))) rfl
theorem tw_898 : Cond.instanceMethod yX5_plenty ∈ lw_g := tg (tm_4 _ (List.mem_of_getElem? (i := 100) (by decide +kernel))) rfl
theorem tw_899 : Cond.code yX5_plenty cX5_plenty 3 (some .int) ∈ lw_g := tg (tm_4 _ (List.mem_of_getElem? (i := 101) (by decide +kernel))) rfl
theorem tw_900 : Cond.methodLink RX5 202 yX5_draws ∈ lw_g := tg (tm_4 _ (List.mem_of_getElem? (i := 102) (by decide +kernel))) rfl
theorem tw_902 : Cond.instanceMethod yX5_draws ∈ lw_g := tg (tm_4 _ (List.mem_of_getElem? (i := 104) (by decide +kernel))) rfl
theorem tw_903 : Cond.code yX5_draws cX5_draws 2 (some .int) ∈ lw_g := tg (tm_4 _ (List.mem_of_getElem? (i := 105) (by decide +kernel))) rfl
theorem tw_904 : Cond.methodLink RX5 208 yX5_bringsAll ∈ lw_g := tg (tm_4 _ (List.mem_of_getElem? (i := 106) (by decide +kernel))) rfl
theorem tw_906 : Cond.instanceMethod yX5_bringsAll ∈ lw_g := tg (tm_4 _ (List.mem_of_getElem? (i := 108) (by decide +kernel))) rfl
theorem tw_907 : Cond.code yX5_bringsAll cX5_bringsAll 3 (none) ∈ lw_g := tg (tm_4 _ (List.mem_of_getElem? (i := 109) (by decide +kernel))) rfl
theorem tw_908 : Cond.methodLink RX5 186 yX5_brings ∈ lw_g := tg (tm_4 _ (List.mem_of_getElem? (i := 110) (by decide +kernel))) rfl
theorem tw_910 : Cond.instanceMethod yX5_brings ∈ lw_g := tg (tm_4 _ (List.mem_of_getElem? (i := 112) (by decide +kernel))) rfl
theorem tw_911 : Cond.code yX5_brings cX5_brings 4 (some .int) ∈ lw_g := tg (tm_4 _ (List.mem_of_getElem? (i := 113) (by decide +kernel))) rfl
theorem tw_912 : Cond.methodLink RX5 190 yX5_held ∈ lw_g := tg (tm_4 _ (List.mem_of_getElem? (i := 114) (by decide +kernel))) rfl
theorem tw_913 : Cond.static yX5_held ∈ lw_g := tg (tm_4 _ (List.mem_of_getElem? (i := 115) (by decide +kernel))) rfl
theorem tw_914 : Cond.code yX5_held cX5_held 3 (some .int) ∈ lw_g := tg (tm_4 _ (List.mem_of_getElem? (i := 116) (by decide +kernel))) rfl
theorem tw_915 : Cond.methodLink RX5 137 yX5_comesGood ∈ lw_g := tg (tm_4 _ (List.mem_of_getElem? (i := 117) (by decide +kernel))) rfl
theorem tw_917 : Cond.instanceMethod yX5_comesGood ∈ lw_g := tg (tm_4 _ (List.mem_of_getElem? (i := 119) (by decide +kernel))) rfl
theorem tw_918 : Cond.code yX5_comesGood cX5_comesGood 4 (some .boolean) ∈ lw_g := tg (tm_4 _ (List.mem_of_getElem? (i := 120) (by decide +kernel))) rfl
theorem tw_919 : Cond.methodLink RX5 108 yX5_isHiding ∈ lw_g := tg (tm_4 _ (List.mem_of_getElem? (i := 121) (by decide +kernel))) rfl
theorem tw_921 : Cond.instanceMethod yX5_isHiding ∈ lw_g := tg (tm_4 _ (List.mem_of_getElem? (i := 123) (by decide +kernel))) rfl
theorem tw_922 : Cond.code yX5_isHiding cX5_isHiding 3 (some .boolean) ∈ lw_g := tg (tm_4 _ (List.mem_of_getElem? (i := 124) (by decide +kernel))) rfl
theorem tw_923 : Cond.methodLink RX5 111 yX5_canHide ∈ lw_g := tg (tm_4 _ (List.mem_of_getElem? (i := 125) (by decide +kernel))) rfl
theorem tw_925 : Cond.instanceMethod yX5_canHide ∈ lw_g := tg (tm_4 _ (List.mem_of_getElem? (i := 127) (by decide +kernel))) rfl
theorem tw_926 : Cond.code yX5_canHide cX5_canHide 3 (some .boolean) ∈ lw_g := tg (tm_4 _ (List.mem_of_getElem? (i := 128) (by decide +kernel))) rfl
theorem tw_927 : Cond.methodLink RX5 114 yX5_hidesOf ∈ lw_g := tg (tm_4 _ (List.mem_of_getElem? (i := 129) (by decide +kernel))) rfl
theorem tw_929 : Cond.instanceMethod yX5_hidesOf ∈ lw_g := tg (tm_4 _ (List.mem_of_getElem? (i := 131) (by decide +kernel))) rfl
theorem tw_930 : Cond.code yX5_hidesOf cX5_hidesOf 3 (none) ∈ lw_g := tg (tm_4 _ (List.mem_of_getElem? (i := 132) (by decide +kernel))) rfl
theorem tw_931 : Cond.methodLink RL 60 yX5_back ∈ lw_g := tg (tm_4 _ (List.mem_of_getElem? (i := 133) (by decide +kernel))) rfl
theorem tw_932 : Cond.instanceMethod yX5_back ∈ lw_g := tg (tm_4 _ (List.mem_of_getElem? (i := 134) (by decide +kernel))) rfl
theorem tw_933 : Cond.selects RX5 yX5_back yX5_back ∈ lw_g := tg (tm_4 _ (List.mem_of_getElem? (i := 135) (by decide +kernel))) rfl
theorem tw_934 : Cond.code yX5_back cX5_back 1 (some .int) ∈ lw_g := tg (tm_4 _ (List.mem_of_getElem? (i := 136) (by decide +kernel))) rfl
theorem tw_935 : Cond.methodLink RL 187 yX5_image ∈ lw_g := tg (tm_4 _ (List.mem_of_getElem? (i := 137) (by decide +kernel))) rfl
theorem tw_936 : Cond.instanceMethod yX5_image ∈ lw_g := tg (tm_4 _ (List.mem_of_getElem? (i := 138) (by decide +kernel))) rfl
theorem tw_937 : Cond.selects RX5 yX5_image yX5_image ∈ lw_g := tg (tm_4 _ (List.mem_of_getElem? (i := 139) (by decide +kernel))) rfl
theorem tw_938 : Cond.code yX5_image cX5_image 1 (some .int) ∈ lw_g := tg (tm_4 _ (List.mem_of_getElem? (i := 140) (by decide +kernel))) rfl
theorem tw_939 : Cond.methodLink RL 191 yX5_restore ∈ lw_g := tg (tm_4 _ (List.mem_of_getElem? (i := 141) (by decide +kernel))) rfl
theorem tw_940 : Cond.instanceMethod yX5_restore ∈ lw_g := tg (tm_4 _ (List.mem_of_getElem? (i := 142) (by decide +kernel))) rfl
theorem tw_941 : Cond.selects RX5 yX5_restore yX5_restore ∈ lw_g := tg (tm_4 _ (List.mem_of_getElem? (i := 143) (by decide +kernel))) rfl
theorem tw_942 : Cond.code yX5_restore cX5_restore 1 (some .int) ∈ lw_g := tg (tm_4 _ (List.mem_of_getElem? (i := 144) (by decide +kernel))) rfl
theorem tw_943 : Cond.methodLink RL 27 yX5_good ∈ lw_g := tg (tm_4 _ (List.mem_of_getElem? (i := 145) (by decide +kernel))) rfl
theorem tw_944 : Cond.instanceMethod yX5_good ∈ lw_g := tg (tm_4 _ (List.mem_of_getElem? (i := 146) (by decide +kernel))) rfl
theorem tw_945 : Cond.selects RX5 yX5_good yX5_good ∈ lw_g := tg (tm_4 _ (List.mem_of_getElem? (i := 147) (by decide +kernel))) rfl
theorem tw_946 : Cond.code yX5_good cX5_good 3 (some .int) ∈ lw_g := tg (tm_4 _ (List.mem_of_getElem? (i := 148) (by decide +kernel))) rfl
theorem tw_947 : Cond.methodLink RL 31 yX5_shipOf ∈ lw_g := tg (tm_4 _ (List.mem_of_getElem? (i := 149) (by decide +kernel))) rfl
theorem tw_948 : Cond.instanceMethod yX5_shipOf ∈ lw_g := tg (tm_4 _ (List.mem_of_getElem? (i := 150) (by decide +kernel))) rfl
theorem tw_949 : Cond.selects RX5 yX5_shipOf yX5_shipOf ∈ lw_g := tg (tm_4 _ (List.mem_of_getElem? (i := 151) (by decide +kernel))) rfl
theorem tw_950 : Cond.code yX5_shipOf cX5_shipOf 3 (some .int) ∈ lw_g := tg (tm_4 _ (List.mem_of_getElem? (i := 152) (by decide +kernel))) rfl
theorem tw_951 : Cond.methodLink RL 35 yX5_tide ∈ lw_g := tg (tm_4 _ (List.mem_of_getElem? (i := 153) (by decide +kernel))) rfl
theorem tw_952 : Cond.instanceMethod yX5_tide ∈ lw_g := tg (tm_4 _ (List.mem_of_getElem? (i := 154) (by decide +kernel))) rfl
theorem tw_953 : Cond.selects RX5 yX5_tide yX5_tide ∈ lw_g := tg (tm_4 _ (List.mem_of_getElem? (i := 155) (by decide +kernel))) rfl
theorem tw_954 : Cond.code yX5_tide cX5_tide 3 (some .int) ∈ lw_g := tg (tm_4 _ (List.mem_of_getElem? (i := 156) (by decide +kernel))) rfl
theorem tw_955 : Cond.methodLink RL 40 yX5_ship ∈ lw_g := tg (tm_4 _ (List.mem_of_getElem? (i := 157) (by decide +kernel))) rfl
theorem tw_956 : Cond.instanceMethod yX5_ship ∈ lw_g := tg (tm_4 _ (List.mem_of_getElem? (i := 158) (by decide +kernel))) rfl
theorem tw_957 : Cond.selects RX5 yX5_ship yX5_ship ∈ lw_g := tg (tm_4 _ (List.mem_of_getElem? (i := 159) (by decide +kernel))) rfl
theorem tw_958 : Cond.code yX5_ship cX5_ship 6 (some .int) ∈ lw_g := tg (tm_4 _ (List.mem_of_getElem? (i := 160) (by decide +kernel))) rfl
theorem tw_959 : Cond.methodLink RL 44 yX5_hides ∈ lw_g := tg (tm_4 _ (List.mem_of_getElem? (i := 161) (by decide +kernel))) rfl
theorem tw_960 : Cond.instanceMethod yX5_hides ∈ lw_g := tg (tm_4 _ (List.mem_of_getElem? (i := 162) (by decide +kernel))) rfl
theorem tw_961 : Cond.selects RX5 yX5_hides yX5_hides ∈ lw_g := tg (tm_4 _ (List.mem_of_getElem? (i := 163) (by decide +kernel))) rfl
theorem tw_962 : Cond.code yX5_hides cX5_hides 4 (some .int) ∈ lw_g := tg (tm_4 _ (List.mem_of_getElem? (i := 164) (by decide +kernel))) rfl
theorem tw_963 : Cond.methodLink RX5 215 yX5_keepsBack ∈ lw_g := tg (tm_4 _ (List.mem_of_getElem? (i := 165) (by decide +kernel))) rfl
theorem tw_965 : Cond.instanceMethod yX5_keepsBack ∈ lw_g := tg (tm_4 _ (List.mem_of_getElem? (i := 167) (by decide +kernel))) rfl
theorem tw_966 : Cond.code yX5_keepsBack cX5_keepsBack 2 (none) ∈ lw_g := tg (tm_4 _ (List.mem_of_getElem? (i := 168) (by decide +kernel))) rfl
theorem tw_967 : Cond.methodLink RL 48 yX5_uses ∈ lw_g := tg (tm_4 _ (List.mem_of_getElem? (i := 169) (by decide +kernel))) rfl
theorem tw_968 : Cond.instanceMethod yX5_uses ∈ lw_g := tg (tm_4 _ (List.mem_of_getElem? (i := 170) (by decide +kernel))) rfl
theorem tw_969 : Cond.selects RX5 yX5_uses yX5_uses ∈ lw_g := tg (tm_4 _ (List.mem_of_getElem? (i := 171) (by decide +kernel))) rfl
theorem tw_970 : Cond.code yX5_uses cX5_uses 5 (some .int) ∈ lw_g := tg (tm_4 _ (List.mem_of_getElem? (i := 172) (by decide +kernel))) rfl
theorem tw_971 : Cond.methodLink RL 52 yX5_sends ∈ lw_g := tg (tm_4 _ (List.mem_of_getElem? (i := 173) (by decide +kernel))) rfl
theorem tw_972 : Cond.instanceMethod yX5_sends ∈ lw_g := tg (tm_4 _ (List.mem_of_getElem? (i := 174) (by decide +kernel))) rfl
theorem tw_973 : Cond.selects RX5 yX5_sends yX5_sends ∈ lw_g := tg (tm_4 _ (List.mem_of_getElem? (i := 175) (by decide +kernel))) rfl
theorem tw_974 : Cond.code yX5_sends cX5_sends 5 (some .int) ∈ lw_g := tg (tm_4 _ (List.mem_of_getElem? (i := 176) (by decide +kernel))) rfl
theorem tw_975 : Cond.methodLink RL 56 yX5_days ∈ lw_g := tg (tm_4 _ (List.mem_of_getElem? (i := 177) (by decide +kernel))) rfl
theorem tw_976 : Cond.instanceMethod yX5_days ∈ lw_g := tg (tm_4 _ (List.mem_of_getElem? (i := 178) (by decide +kernel))) rfl
theorem tw_977 : Cond.selects RX5 yX5_days yX5_days ∈ lw_g := tg (tm_4 _ (List.mem_of_getElem? (i := 179) (by decide +kernel))) rfl
theorem tw_978 : Cond.code yX5_days cX5_days 3 (some .int) ∈ lw_g := tg (tm_4 _ (List.mem_of_getElem? (i := 180) (by decide +kernel))) rfl
theorem tw_979 : Cond.methodLink RX5 218 yX5_inOnes ∈ lw_g := tg (tm_4 _ (List.mem_of_getElem? (i := 181) (by decide +kernel))) rfl
theorem tw_981 : Cond.instanceMethod yX5_inOnes ∈ lw_g := tg (tm_4 _ (List.mem_of_getElem? (i := 183) (by decide +kernel))) rfl
theorem tw_982 : Cond.code yX5_inOnes cX5_inOnes 3 (some .int) ∈ lw_g := tg (tm_4 _ (List.mem_of_getElem? (i := 184) (by decide +kernel))) rfl
theorem tw_983 : Cond.methodLink RX5 221 yX5_bits ∈ lw_g := tg (tm_4 _ (List.mem_of_getElem? (i := 185) (by decide +kernel))) rfl
theorem tw_984 : Cond.static yX5_bits ∈ lw_g := tg (tm_4 _ (List.mem_of_getElem? (i := 186) (by decide +kernel))) rfl
theorem tw_985 : Cond.code yX5_bits cX5_bits 3 (some .int) ∈ lw_g := tg (tm_4 _ (List.mem_of_getElem? (i := 187) (by decide +kernel))) rfl
theorem tw_986 : Cond.methodLink RL 64 yX5_thereIn ∈ lw_g := tg (tm_4 _ (List.mem_of_getElem? (i := 188) (by decide +kernel))) rfl
theorem tw_987 : Cond.instanceMethod yX5_thereIn ∈ lw_g := tg (tm_4 _ (List.mem_of_getElem? (i := 189) (by decide +kernel))) rfl
theorem tw_988 : Cond.selects RX5 yX5_thereIn yX5_thereIn ∈ lw_g := tg (tm_4 _ (List.mem_of_getElem? (i := 190) (by decide +kernel))) rfl
theorem tw_989 : Cond.code yX5_thereIn cX5_thereIn 5 (some .int) ∈ lw_g := tg (tm_4 _ (List.mem_of_getElem? (i := 191) (by decide +kernel))) rfl
theorem tw_990 : Cond.methodLink RX5 224 yX5_notDays ∈ lw_g := tg (tm_4 _ (List.mem_of_getElem? (i := 192) (by decide +kernel))) rfl
theorem tw_991 : Cond.static yX5_notDays ∈ lw_g := tg (tm_4 _ (List.mem_of_getElem? (i := 193) (by decide +kernel))) rfl
theorem tw_992 : Cond.code yX5_notDays cX5_notDays 1 (some .int) ∈ lw_g := tg (tm_4 _ (List.mem_of_getElem? (i := 194) (by decide +kernel))) rfl
theorem tw_993 : Cond.methodLink RX5 227 yX5_thinks ∈ lw_g := tg (tm_4 _ (List.mem_of_getElem? (i := 195) (by decide +kernel))) rfl
theorem tw_995 : Cond.instanceMethod yX5_thinks ∈ lw_g := tg (tm_4 _ (List.mem_of_getElem? (i := 197) (by decide +kernel))) rfl
theorem tw_996 : Cond.code yX5_thinks cX5_thinks 1 (none) ∈ lw_g := tg (tm_4 _ (List.mem_of_getElem? (i := 198) (by decide +kernel))) rfl
theorem tw_997 : Cond.methodLink RX5 230 yX5_forgets ∈ lw_g := tg (tm_4 _ (List.mem_of_getElem? (i := 199) (by decide +kernel))) rfl
theorem tw_999 : Cond.instanceMethod yX5_forgets ∈ lw_g := tg (tm_4 _ (List.mem_of_getElem? (i := 201) (by decide +kernel))) rfl
theorem tw_1000 : Cond.code yX5_forgets cX5_forgets 1 (none) ∈ lw_g := tg (tm_4 _ (List.mem_of_getElem? (i := 202) (by decide +kernel))) rfl
theorem tw_1001 : Cond.methodLink RL 68 yX5_then ∈ lw_g := tg (tm_4 _ (List.mem_of_getElem? (i := 203) (by decide +kernel))) rfl
theorem tw_1002 : Cond.instanceMethod yX5_then ∈ lw_g := tg (tm_4 _ (List.mem_of_getElem? (i := 204) (by decide +kernel))) rfl
theorem tw_1003 : Cond.selects RX5 yX5_then yX5_then ∈ lw_g := tg (tm_4 _ (List.mem_of_getElem? (i := 205) (by decide +kernel))) rfl
theorem tw_1004 : Cond.code yX5_then cX5_then 5 (some .int) ∈ lw_g := tg (tm_4 _ (List.mem_of_getElem? (i := 206) (by decide +kernel))) rfl
theorem tw_1005 : Cond.methodLink RL 72 yX5_comes ∈ lw_g := tg (tm_4 _ (List.mem_of_getElem? (i := 207) (by decide +kernel))) rfl
theorem tw_1006 : Cond.instanceMethod yX5_comes ∈ lw_g := tg (tm_4 _ (List.mem_of_getElem? (i := 208) (by decide +kernel))) rfl
theorem tw_1007 : Cond.selects RX5 yX5_comes yX5_comes ∈ lw_g := tg (tm_4 _ (List.mem_of_getElem? (i := 209) (by decide +kernel))) rfl
theorem tw_1008 : Cond.code yX5_comes cX5_comes 2 (some .int) ∈ lw_g := tg (tm_4 _ (List.mem_of_getElem? (i := 210) (by decide +kernel))) rfl
theorem tw_1009 : Cond.methodLink RX5 236 yX5_firstOne ∈ lw_g := tg (tm_4 _ (List.mem_of_getElem? (i := 211) (by decide +kernel))) rfl
theorem tw_1011 : Cond.instanceMethod yX5_firstOne ∈ lw_g := tg (tm_4 _ (List.mem_of_getElem? (i := 213) (by decide +kernel))) rfl
theorem tw_1012 : Cond.code yX5_firstOne cX5_firstOne 5 (some .int) ∈ lw_g := tg (tm_4 _ (List.mem_of_getElem? (i := 214) (by decide +kernel))) rfl
theorem tw_1013 : Cond.methodLink RX5 233 yX5_comesIn ∈ lw_g := tg (tm_4 _ (List.mem_of_getElem? (i := 215) (by decide +kernel))) rfl
theorem tw_1015 : Cond.instanceMethod yX5_comesIn ∈ lw_g := tg (tm_4 _ (List.mem_of_getElem? (i := 217) (by decide +kernel))) rfl
theorem tw_1016 : Cond.code yX5_comesIn cX5_comesIn 5 (some .int) ∈ lw_g := tg (tm_4 _ (List.mem_of_getElem? (i := 218) (by decide +kernel))) rfl
theorem tw_1017 : Cond.methodLink RL 76 yX5_shut ∈ lw_g := tg (tm_4 _ (List.mem_of_getElem? (i := 219) (by decide +kernel))) rfl
theorem tw_1018 : Cond.instanceMethod yX5_shut ∈ lw_g := tg (tm_4 _ (List.mem_of_getElem? (i := 220) (by decide +kernel))) rfl
theorem tw_1019 : Cond.selects RX5 yX5_shut yX5_shut ∈ lw_g := tg (tm_4 _ (List.mem_of_getElem? (i := 221) (by decide +kernel))) rfl
theorem tw_1020 : Cond.code yX5_shut cX5_shut 3 (some .int) ∈ lw_g := tg (tm_4 _ (List.mem_of_getElem? (i := 222) (by decide +kernel))) rfl
theorem tw_1021 : Cond.methodLink RX5 242 yX5_isShut ∈ lw_g := tg (tm_4 _ (List.mem_of_getElem? (i := 223) (by decide +kernel))) rfl
theorem tw_1023 : Cond.instanceMethod yX5_isShut ∈ lw_g := tg (tm_4 _ (List.mem_of_getElem? (i := 225) (by decide +kernel))) rfl
theorem tw_1024 : Cond.code yX5_isShut cX5_isShut 2 (some .boolean) ∈ lw_g := tg (tm_4 _ (List.mem_of_getElem? (i := 226) (by decide +kernel))) rfl
theorem tw_1025 : Cond.methodLink RX5 239 yX5_isInNext ∈ lw_g := tg (tm_4 _ (List.mem_of_getElem? (i := 227) (by decide +kernel))) rfl
theorem tw_1027 : Cond.instanceMethod yX5_isInNext ∈ lw_g := tg (tm_4 _ (List.mem_of_getElem? (i := 229) (by decide +kernel))) rfl
theorem tw_1028 : Cond.code yX5_isInNext cX5_isInNext 5 (some .boolean) ∈ lw_g := tg (tm_4 _ (List.mem_of_getElem? (i := 230) (by decide +kernel))) rfl
theorem tw_1029 : Cond.methodLink RL 80 yX5_byWhom ∈ lw_g := tg (tm_4 _ (List.mem_of_getElem? (i := 231) (by decide +kernel))) rfl
theorem tw_1030 : Cond.instanceMethod yX5_byWhom ∈ lw_g := tg (tm_4 _ (List.mem_of_getElem? (i := 232) (by decide +kernel))) rfl
theorem tw_1031 : Cond.selects RX5 yX5_byWhom yX5_byWhom ∈ lw_g := tg (tm_4 _ (List.mem_of_getElem? (i := 233) (by decide +kernel))) rfl
theorem tw_1032 : Cond.code yX5_byWhom cX5_byWhom 3 (some .int) ∈ lw_g := tg (tm_4 _ (List.mem_of_getElem? (i := 234) (by decide +kernel))) rfl
theorem tw_1033 : Cond.methodLink RL 84 yX5_loaded ∈ lw_g := tg (tm_4 _ (List.mem_of_getElem? (i := 235) (by decide +kernel))) rfl
theorem tw_1034 : Cond.instanceMethod yX5_loaded ∈ lw_g := tg (tm_4 _ (List.mem_of_getElem? (i := 236) (by decide +kernel))) rfl
theorem tw_1035 : Cond.selects RX5 yX5_loaded yX5_loaded ∈ lw_g := tg (tm_4 _ (List.mem_of_getElem? (i := 237) (by decide +kernel))) rfl
theorem tw_1036 : Cond.code yX5_loaded cX5_loaded 4 (some .int) ∈ lw_g := tg (tm_4 _ (List.mem_of_getElem? (i := 238) (by decide +kernel))) rfl
theorem tw_1037 : Cond.methodLink RX5 251 yX5_findLoaded ∈ lw_g := tg (tm_4 _ (List.mem_of_getElem? (i := 239) (by decide +kernel))) rfl
theorem tw_1039 : Cond.instanceMethod yX5_findLoaded ∈ lw_g := tg (tm_5 _ (List.mem_of_getElem? (i := 1) (by decide +kernel))) rfl
theorem tw_1040 : Cond.code yX5_findLoaded cX5_findLoaded 5 (none) ∈ lw_g := tg (tm_5 _ (List.mem_of_getElem? (i := 2) (by decide +kernel))) rfl
theorem tw_1041 : Cond.methodLink RL 89 yX5_hide ∈ lw_g := tg (tm_5 _ (List.mem_of_getElem? (i := 3) (by decide +kernel))) rfl
theorem tw_1042 : Cond.instanceMethod yX5_hide ∈ lw_g := tg (tm_5 _ (List.mem_of_getElem? (i := 4) (by decide +kernel))) rfl
theorem tw_1043 : Cond.selects RX5 yX5_hide yX5_hide ∈ lw_g := tg (tm_5 _ (List.mem_of_getElem? (i := 5) (by decide +kernel))) rfl
theorem tw_1044 : Cond.code yX5_hide cX5_hide 6 (some .int) ∈ lw_g := tg (tm_5 _ (List.mem_of_getElem? (i := 6) (by decide +kernel))) rfl
theorem tw_1045 : Cond.methodLink RX5 254 yX5_comesHiding ∈ lw_g := tg (tm_5 _ (List.mem_of_getElem? (i := 7) (by decide +kernel))) rfl
theorem tw_1047 : Cond.instanceMethod yX5_comesHiding ∈ lw_g := tg (tm_5 _ (List.mem_of_getElem? (i := 9) (by decide +kernel))) rfl
theorem tw_1048 : Cond.code yX5_comesHiding cX5_comesHiding 6 (some .boolean) ∈ lw_g := tg (tm_5 _ (List.mem_of_getElem? (i := 10) (by decide +kernel))) rfl
theorem tw_1049 : Cond.methodLink RL 93 yX5_fewest ∈ lw_g := tg (tm_5 _ (List.mem_of_getElem? (i := 11) (by decide +kernel))) rfl
theorem tw_1050 : Cond.instanceMethod yX5_fewest ∈ lw_g := tg (tm_5 _ (List.mem_of_getElem? (i := 12) (by decide +kernel))) rfl
theorem tw_1051 : Cond.selects RX5 yX5_fewest yX5_fewest ∈ lw_g := tg (tm_5 _ (List.mem_of_getElem? (i := 13) (by decide +kernel))) rfl
theorem tw_1052 : Cond.code yX5_fewest cX5_fewest 6 (some .int) ∈ lw_g := tg (tm_5 _ (List.mem_of_getElem? (i := 14) (by decide +kernel))) rfl
theorem tw_1053 : Cond.methodLink RX5 264 yX5_comesShort ∈ lw_g := tg (tm_5 _ (List.mem_of_getElem? (i := 15) (by decide +kernel))) rfl
theorem tw_1055 : Cond.instanceMethod yX5_comesShort ∈ lw_g := tg (tm_5 _ (List.mem_of_getElem? (i := 17) (by decide +kernel))) rfl
theorem tw_1056 : Cond.code yX5_comesShort cX5_comesShort 5 (some .boolean) ∈ lw_g := tg (tm_5 _ (List.mem_of_getElem? (i := 18) (by decide +kernel))) rfl
theorem tw_1057 : Cond.methodLink RX5 258 yX5_changes ∈ lw_g := tg (tm_5 _ (List.mem_of_getElem? (i := 19) (by decide +kernel))) rfl
theorem tw_1059 : Cond.instanceMethod yX5_changes ∈ lw_g := tg (tm_5 _ (List.mem_of_getElem? (i := 21) (by decide +kernel))) rfl
theorem tw_1060 : Cond.code yX5_changes cX5_changes 1 (none) ∈ lw_g := tg (tm_5 _ (List.mem_of_getElem? (i := 22) (by decide +kernel))) rfl
theorem tw_1061 : Cond.methodLink RX5 261 yX5_changesBack ∈ lw_g := tg (tm_5 _ (List.mem_of_getElem? (i := 23) (by decide +kernel))) rfl
theorem tw_1063 : Cond.instanceMethod yX5_changesBack ∈ lw_g := tg (tm_5 _ (List.mem_of_getElem? (i := 25) (by decide +kernel))) rfl
theorem tw_1064 : Cond.code yX5_changesBack cX5_changesBack 1 (none) ∈ lw_g := tg (tm_5 _ (List.mem_of_getElem? (i := 26) (by decide +kernel))) rfl
theorem tw_1065 : Cond.methodLink RL 97 yX5_forWhat ∈ lw_g := tg (tm_5 _ (List.mem_of_getElem? (i := 27) (by decide +kernel))) rfl
theorem tw_1066 : Cond.instanceMethod yX5_forWhat ∈ lw_g := tg (tm_5 _ (List.mem_of_getElem? (i := 28) (by decide +kernel))) rfl
theorem tw_1067 : Cond.selects RX5 yX5_forWhat yX5_forWhat ∈ lw_g := tg (tm_5 _ (List.mem_of_getElem? (i := 29) (by decide +kernel))) rfl
theorem tw_1068 : Cond.code yX5_forWhat cX5_forWhat 5 (some .int) ∈ lw_g := tg (tm_5 _ (List.mem_of_getElem? (i := 30) (by decide +kernel))) rfl
theorem tw_1069 : Cond.methodLink RX5 267 yX5_comesWithout ∈ lw_g := tg (tm_5 _ (List.mem_of_getElem? (i := 31) (by decide +kernel))) rfl
theorem tw_1071 : Cond.instanceMethod yX5_comesWithout ∈ lw_g := tg (tm_5 _ (List.mem_of_getElem? (i := 33) (by decide +kernel))) rfl
theorem tw_1072 : Cond.code yX5_comesWithout cX5_comesWithout 4 (some .boolean) ∈ lw_g := tg (tm_5 _ (List.mem_of_getElem? (i := 34) (by decide +kernel))) rfl
theorem tw_1073 : Cond.methodLink RL 101 yX5_want ∈ lw_g := tg (tm_5 _ (List.mem_of_getElem? (i := 35) (by decide +kernel))) rfl
theorem tw_1074 : Cond.instanceMethod yX5_want ∈ lw_g := tg (tm_5 _ (List.mem_of_getElem? (i := 36) (by decide +kernel))) rfl
theorem tw_1075 : Cond.selects RX5 yX5_want yX5_want ∈ lw_g := tg (tm_5 _ (List.mem_of_getElem? (i := 37) (by decide +kernel))) rfl
theorem tw_1076 : Cond.code yX5_want cX5_want 3 (some .int) ∈ lw_g := tg (tm_5 _ (List.mem_of_getElem? (i := 38) (by decide +kernel))) rfl
theorem tw_1077 : Cond.methodLink RX5 273 yX5_wantIn ∈ lw_g := tg (tm_5 _ (List.mem_of_getElem? (i := 39) (by decide +kernel))) rfl
theorem tw_1079 : Cond.instanceMethod yX5_wantIn ∈ lw_g := tg (tm_5 _ (List.mem_of_getElem? (i := 41) (by decide +kernel))) rfl
theorem tw_1080 : Cond.code yX5_wantIn cX5_wantIn 4 (some .int) ∈ lw_g := tg (tm_5 _ (List.mem_of_getElem? (i := 42) (by decide +kernel))) rfl
theorem tw_1081 : Cond.methodLink RX5 270 yX5_allLack ∈ lw_g := tg (tm_5 _ (List.mem_of_getElem? (i := 43) (by decide +kernel))) rfl
theorem tw_1083 : Cond.instanceMethod yX5_allLack ∈ lw_g := tg (tm_5 _ (List.mem_of_getElem? (i := 45) (by decide +kernel))) rfl
theorem tw_1084 : Cond.code yX5_allLack cX5_allLack 3 (some .int) ∈ lw_g := tg (tm_5 _ (List.mem_of_getElem? (i := 46) (by decide +kernel))) rfl
theorem tw_1085 : Cond.methodLink RL 105 yX5_bare ∈ lw_g := tg (tm_5 _ (List.mem_of_getElem? (i := 47) (by decide +kernel))) rfl
theorem tw_1086 : Cond.instanceMethod yX5_bare ∈ lw_g := tg (tm_5 _ (List.mem_of_getElem? (i := 48) (by decide +kernel))) rfl
theorem tw_1087 : Cond.selects RX5 yX5_bare yX5_bare ∈ lw_g := tg (tm_5 _ (List.mem_of_getElem? (i := 49) (by decide +kernel))) rfl
theorem tw_1088 : Cond.code yX5_bare cX5_bare 2 (some .int) ∈ lw_g := tg (tm_5 _ (List.mem_of_getElem? (i := 50) (by decide +kernel))) rfl
theorem tw_1089 : Cond.methodLink RX5 282 yX5_findBare ∈ lw_g := tg (tm_5 _ (List.mem_of_getElem? (i := 51) (by decide +kernel))) rfl
theorem tw_1091 : Cond.instanceMethod yX5_findBare ∈ lw_g := tg (tm_5 _ (List.mem_of_getElem? (i := 53) (by decide +kernel))) rfl
theorem tw_1092 : Cond.code yX5_findBare cX5_findBare 3 (none) ∈ lw_g := tg (tm_5 _ (List.mem_of_getElem? (i := 54) (by decide +kernel))) rfl
theorem tw_1093 : Cond.methodLink RL 109 yX5_lasts ∈ lw_g := tg (tm_5 _ (List.mem_of_getElem? (i := 55) (by decide +kernel))) rfl
theorem tw_1094 : Cond.instanceMethod yX5_lasts ∈ lw_g := tg (tm_5 _ (List.mem_of_getElem? (i := 56) (by decide +kernel))) rfl
theorem tw_1095 : Cond.selects RX5 yX5_lasts yX5_lasts ∈ lw_g := tg (tm_5 _ (List.mem_of_getElem? (i := 57) (by decide +kernel))) rfl
theorem tw_1096 : Cond.code yX5_lasts cX5_lasts 2 (some .int) ∈ lw_g := tg (tm_5 _ (List.mem_of_getElem? (i := 58) (by decide +kernel))) rfl
theorem tw_1097 : Cond.methodLink RL 113 yX5_best ∈ lw_g := tg (tm_5 _ (List.mem_of_getElem? (i := 59) (by decide +kernel))) rfl
theorem tw_1098 : Cond.instanceMethod yX5_best ∈ lw_g := tg (tm_5 _ (List.mem_of_getElem? (i := 60) (by decide +kernel))) rfl
theorem tw_1099 : Cond.selects RX5 yX5_best yX5_best ∈ lw_g := tg (tm_5 _ (List.mem_of_getElem? (i := 61) (by decide +kernel))) rfl
theorem tw_1100 : Cond.code yX5_best cX5_best 7 (some .int) ∈ lw_g := tg (tm_5 _ (List.mem_of_getElem? (i := 62) (by decide +kernel))) rfl
theorem tw_1101 : Cond.methodLink RL 117 yX5_whichTown ∈ lw_g := tg (tm_5 _ (List.mem_of_getElem? (i := 63) (by decide +kernel))) rfl
theorem tw_1102 : Cond.instanceMethod yX5_whichTown ∈ lw_g := tg (tm_5 _ (List.mem_of_getElem? (i := 64) (by decide +kernel))) rfl
theorem tw_1103 : Cond.selects RX5 yX5_whichTown yX5_whichTown ∈ lw_g := tg (tm_5 _ (List.mem_of_getElem? (i := 65) (by decide +kernel))) rfl
theorem tw_1104 : Cond.code yX5_whichTown cX5_whichTown 9 (some .int) ∈ lw_g := tg (tm_5 _ (List.mem_of_getElem? (i := 66) (by decide +kernel))) rfl
theorem tw_1105 : Cond.methodLink RX5 288 yX5_isTownSo ∈ lw_g := tg (tm_5 _ (List.mem_of_getElem? (i := 67) (by decide +kernel))) rfl
theorem tw_1107 : Cond.instanceMethod yX5_isTownSo ∈ lw_g := tg (tm_5 _ (List.mem_of_getElem? (i := 69) (by decide +kernel))) rfl
theorem tw_1108 : Cond.code yX5_isTownSo cX5_isTownSo 3 (some .boolean) ∈ lw_g := tg (tm_5 _ (List.mem_of_getElem? (i := 70) (by decide +kernel))) rfl
theorem tw_1109 : Cond.methodLink RL 121 yX5_whatKind ∈ lw_g := tg (tm_5 _ (List.mem_of_getElem? (i := 71) (by decide +kernel))) rfl
theorem tw_1110 : Cond.instanceMethod yX5_whatKind ∈ lw_g := tg (tm_5 _ (List.mem_of_getElem? (i := 72) (by decide +kernel))) rfl
theorem tw_1111 : Cond.selects RX5 yX5_whatKind yX5_whatKind ∈ lw_g := tg (tm_5 _ (List.mem_of_getElem? (i := 73) (by decide +kernel))) rfl
theorem tw_1112 : Cond.code yX5_whatKind cX5_whatKind 4 (some .int) ∈ lw_g := tg (tm_5 _ (List.mem_of_getElem? (i := 74) (by decide +kernel))) rfl
theorem tw_1113 : Cond.methodLink RX5 294 yX5_bitsFor ∈ lw_g := tg (tm_5 _ (List.mem_of_getElem? (i := 75) (by decide +kernel))) rfl
theorem tw_1115 : Cond.instanceMethod yX5_bitsFor ∈ lw_g := tg (tm_5 _ (List.mem_of_getElem? (i := 77) (by decide +kernel))) rfl
theorem tw_1116 : Cond.code yX5_bitsFor cX5_bitsFor 7 (some .int) ∈ lw_g := tg (tm_5 _ (List.mem_of_getElem? (i := 78) (by decide +kernel))) rfl
theorem tw_1117 : Cond.methodLink RX5 291 yX5_isDeepSo ∈ lw_g := tg (tm_5 _ (List.mem_of_getElem? (i := 79) (by decide +kernel))) rfl
theorem tw_1119 : Cond.instanceMethod yX5_isDeepSo ∈ lw_g := tg (tm_5 _ (List.mem_of_getElem? (i := 81) (by decide +kernel))) rfl
theorem tw_1120 : Cond.code yX5_isDeepSo cX5_isDeepSo 4 (some .boolean) ∈ lw_g := tg (tm_5 _ (List.mem_of_getElem? (i := 82) (by decide +kernel))) rfl
theorem tw_1121 : Cond.methodLink RL 125 yX5_two ∈ lw_g := tg (tm_5 _ (List.mem_of_getElem? (i := 83) (by decide +kernel))) rfl
theorem tw_1122 : Cond.instanceMethod yX5_two ∈ lw_g := tg (tm_5 _ (List.mem_of_getElem? (i := 84) (by decide +kernel))) rfl
theorem tw_1123 : Cond.selects RX5 yX5_two yX5_two ∈ lw_g := tg (tm_5 _ (List.mem_of_getElem? (i := 85) (by decide +kernel))) rfl
theorem tw_1124 : Cond.code yX5_two cX5_two 6 (some .int) ∈ lw_g := tg (tm_5 _ (List.mem_of_getElem? (i := 86) (by decide +kernel))) rfl
theorem tw_1125 : Cond.methodLink RX5 301 yX5_findCosts ∈ lw_g := tg (tm_5 _ (List.mem_of_getElem? (i := 87) (by decide +kernel))) rfl
theorem tw_1127 : Cond.instanceMethod yX5_findCosts ∈ lw_g := tg (tm_5 _ (List.mem_of_getElem? (i := 89) (by decide +kernel))) rfl
theorem tw_1128 : Cond.code yX5_findCosts cX5_findCosts 5 (none) ∈ lw_g := tg (tm_5 _ (List.mem_of_getElem? (i := 90) (by decide +kernel))) rfl
theorem tw_1129 : Cond.methodLink RX5 298 yX5_hidesTen ∈ lw_g := tg (tm_5 _ (List.mem_of_getElem? (i := 91) (by decide +kernel))) rfl
theorem tw_1131 : Cond.instanceMethod yX5_hidesTen ∈ lw_g := tg (tm_5 _ (List.mem_of_getElem? (i := 93) (by decide +kernel))) rfl
theorem tw_1132 : Cond.code yX5_hidesTen cX5_hidesTen 4 (none) ∈ lw_g := tg (tm_5 _ (List.mem_of_getElem? (i := 94) (by decide +kernel))) rfl
theorem tw_1133 : Cond.methodLink RL 130 yX5_storms ∈ lw_g := tg (tm_5 _ (List.mem_of_getElem? (i := 95) (by decide +kernel))) rfl
theorem tw_1134 : Cond.instanceMethod yX5_storms ∈ lw_g := tg (tm_5 _ (List.mem_of_getElem? (i := 96) (by decide +kernel))) rfl
theorem tw_1135 : Cond.selects RX5 yX5_storms yX5_storms ∈ lw_g := tg (tm_5 _ (List.mem_of_getElem? (i := 97) (by decide +kernel))) rfl
theorem tw_1136 : Cond.code yX5_storms cX5_storms 14 (some .long) ∈ lw_g := tg (tm_5 _ (List.mem_of_getElem? (i := 98) (by decide +kernel))) rfl
theorem tw_1137 : Cond.methodLink RX5 309 yX5_lowestOf ∈ lw_g := tg (tm_5 _ (List.mem_of_getElem? (i := 99) (by decide +kernel))) rfl
theorem tw_1139 : Cond.instanceMethod yX5_lowestOf ∈ lw_g := tg (tm_5 _ (List.mem_of_getElem? (i := 101) (by decide +kernel))) rfl
theorem tw_1140 : Cond.code yX5_lowestOf cX5_lowestOf 2 (some .long) ∈ lw_g := tg (tm_5 _ (List.mem_of_getElem? (i := 102) (by decide +kernel))) rfl
theorem tw_1141 : (Jvm.Cond.constantLong "TakesWhatItLacksModel" (63 : Nat) (4000000000000000000 : Int64)) ∈ lw_g := tg (tm_5 _ (List.mem_of_getElem? (i := 103) (by decide +kernel))) rfl
theorem tw_1142 : Cond.methodLink RX5 313 yX5_partOf ∈ lw_g := tg (tm_5 _ (List.mem_of_getElem? (i := 104) (by decide +kernel))) rfl
theorem tw_1143 : Cond.static yX5_partOf ∈ lw_g := tg (tm_5 _ (List.mem_of_getElem? (i := 105) (by decide +kernel))) rfl
theorem tw_1144 : Cond.code yX5_partOf cX5_partOf 5 (some .long) ∈ lw_g := tg (tm_5 _ (List.mem_of_getElem? (i := 106) (by decide +kernel))) rfl
theorem tw_1145 : Cond.methodLink RX5 305 yX5_divisor ∈ lw_g := tg (tm_5 _ (List.mem_of_getElem? (i := 107) (by decide +kernel))) rfl
theorem tw_1146 : Cond.static yX5_divisor ∈ lw_g := tg (tm_5 _ (List.mem_of_getElem? (i := 108) (by decide +kernel))) rfl
theorem tw_1147 : Cond.code yX5_divisor cX5_divisor 10 (some .long) ∈ lw_g := tg (tm_5 _ (List.mem_of_getElem? (i := 109) (by decide +kernel))) rfl
theorem tw_1148 : Cond.methodLink RL 134 yX5_deepest ∈ lw_g := tg (tm_5 _ (List.mem_of_getElem? (i := 110) (by decide +kernel))) rfl
theorem tw_1149 : Cond.instanceMethod yX5_deepest ∈ lw_g := tg (tm_5 _ (List.mem_of_getElem? (i := 111) (by decide +kernel))) rfl
theorem tw_1150 : Cond.selects RX5 yX5_deepest yX5_deepest ∈ lw_g := tg (tm_5 _ (List.mem_of_getElem? (i := 112) (by decide +kernel))) rfl
theorem tw_1151 : Cond.code yX5_deepest cX5_deepest 2 (some .int) ∈ lw_g := tg (tm_5 _ (List.mem_of_getElem? (i := 113) (by decide +kernel))) rfl
theorem tw_1152 : Cond.methodLink RX5 317 yX5_deepestOne ∈ lw_g := tg (tm_5 _ (List.mem_of_getElem? (i := 114) (by decide +kernel))) rfl
theorem tw_1154 : Cond.instanceMethod yX5_deepestOne ∈ lw_g := tg (tm_5 _ (List.mem_of_getElem? (i := 116) (by decide +kernel))) rfl
theorem tw_1155 : Cond.code yX5_deepestOne cX5_deepestOne 3 (some .int) ∈ lw_g := tg (tm_5 _ (List.mem_of_getElem? (i := 117) (by decide +kernel))) rfl
theorem tw_1156 : Cond.methodLink RX5 320 yX5_shortest ∈ lw_g := tg (tm_5 _ (List.mem_of_getElem? (i := 118) (by decide +kernel))) rfl
theorem tw_1158 : Cond.instanceMethod yX5_shortest ∈ lw_g := tg (tm_5 _ (List.mem_of_getElem? (i := 120) (by decide +kernel))) rfl
theorem tw_1159 : Cond.code yX5_shortest cX5_shortest 3 (some .int) ∈ lw_g := tg (tm_5 _ (List.mem_of_getElem? (i := 121) (by decide +kernel))) rfl
theorem tw_1160 : Cond.methodLink RX5 323 yX5_plentiful ∈ lw_g := tg (tm_5 _ (List.mem_of_getElem? (i := 122) (by decide +kernel))) rfl
theorem tw_1162 : Cond.instanceMethod yX5_plentiful ∈ lw_g := tg (tm_5 _ (List.mem_of_getElem? (i := 124) (by decide +kernel))) rfl
theorem tw_1163 : Cond.code yX5_plentiful cX5_plentiful 3 (some .int) ∈ lw_g := tg (tm_5 _ (List.mem_of_getElem? (i := 125) (by decide +kernel))) rfl
theorem tw_1164 : Cond.methodLink RX5 326 yX5_twins ∈ lw_g := tg (tm_5 _ (List.mem_of_getElem? (i := 126) (by decide +kernel))) rfl
theorem tw_1166 : Cond.instanceMethod yX5_twins ∈ lw_g := tg (tm_5 _ (List.mem_of_getElem? (i := 128) (by decide +kernel))) rfl
theorem tw_1167 : Cond.code yX5_twins cX5_twins 4 (some .int) ∈ lw_g := tg (tm_5 _ (List.mem_of_getElem? (i := 129) (by decide +kernel))) rfl
theorem tw_1168 : Cond.methodLink RL 139 yX5_mean ∈ lw_g := tg (tm_5 _ (List.mem_of_getElem? (i := 130) (by decide +kernel))) rfl
theorem tw_1169 : Cond.instanceMethod yX5_mean ∈ lw_g := tg (tm_5 _ (List.mem_of_getElem? (i := 131) (by decide +kernel))) rfl
theorem tw_1170 : Cond.selects RX5 yX5_mean yX5_mean ∈ lw_g := tg (tm_5 _ (List.mem_of_getElem? (i := 132) (by decide +kernel))) rfl
theorem tw_1171 : Cond.code yX5_mean cX5_mean 5 (some .long) ∈ lw_g := tg (tm_5 _ (List.mem_of_getElem? (i := 133) (by decide +kernel))) rfl
theorem tw_1172 : Cond.methodLink RL 143 yX5_hidden ∈ lw_g := tg (tm_5 _ (List.mem_of_getElem? (i := 134) (by decide +kernel))) rfl
theorem tw_1173 : Cond.instanceMethod yX5_hidden ∈ lw_g := tg (tm_5 _ (List.mem_of_getElem? (i := 135) (by decide +kernel))) rfl
theorem tw_1174 : Cond.selects RX5 yX5_hidden yX5_hidden ∈ lw_g := tg (tm_5 _ (List.mem_of_getElem? (i := 136) (by decide +kernel))) rfl
theorem tw_1175 : Cond.code yX5_hidden cX5_hidden 3 (some .int) ∈ lw_g := tg (tm_5 _ (List.mem_of_getElem? (i := 137) (by decide +kernel))) rfl
theorem tw_1176 : Cond.methodLink RL 147 yX5_nextTide ∈ lw_g := tg (tm_5 _ (List.mem_of_getElem? (i := 138) (by decide +kernel))) rfl
theorem tw_1177 : Cond.instanceMethod yX5_nextTide ∈ lw_g := tg (tm_5 _ (List.mem_of_getElem? (i := 139) (by decide +kernel))) rfl
theorem tw_1178 : Cond.selects RX5 yX5_nextTide yX5_nextTide ∈ lw_g := tg (tm_5 _ (List.mem_of_getElem? (i := 140) (by decide +kernel))) rfl
theorem tw_1179 : Cond.code yX5_nextTide cX5_nextTide 4 (some .int) ∈ lw_g := tg (tm_5 _ (List.mem_of_getElem? (i := 141) (by decide +kernel))) rfl
theorem tw_1180 : Cond.methodLink RL 151 yX5_empty ∈ lw_g := tg (tm_5 _ (List.mem_of_getElem? (i := 142) (by decide +kernel))) rfl
theorem tw_1181 : Cond.instanceMethod yX5_empty ∈ lw_g := tg (tm_5 _ (List.mem_of_getElem? (i := 143) (by decide +kernel))) rfl
theorem tw_1182 : Cond.selects RX5 yX5_empty yX5_empty ∈ lw_g := tg (tm_5 _ (List.mem_of_getElem? (i := 144) (by decide +kernel))) rfl
theorem tw_1183 : Cond.code yX5_empty cX5_empty 3 (some .int) ∈ lw_g := tg (tm_5 _ (List.mem_of_getElem? (i := 145) (by decide +kernel))) rfl
theorem tw_1184 : Cond.methodLink RL 155 yX5_carried ∈ lw_g := tg (tm_5 _ (List.mem_of_getElem? (i := 146) (by decide +kernel))) rfl
theorem tw_1185 : Cond.instanceMethod yX5_carried ∈ lw_g := tg (tm_5 _ (List.mem_of_getElem? (i := 147) (by decide +kernel))) rfl
theorem tw_1186 : Cond.selects RX5 yX5_carried yX5_carried ∈ lw_g := tg (tm_5 _ (List.mem_of_getElem? (i := 148) (by decide +kernel))) rfl
theorem tw_1187 : Cond.code yX5_carried cX5_carried 4 (some .int) ∈ lw_g := tg (tm_5 _ (List.mem_of_getElem? (i := 149) (by decide +kernel))) rfl
theorem tw_1188 : Cond.methodLink RL 159 yX5_filled ∈ lw_g := tg (tm_5 _ (List.mem_of_getElem? (i := 150) (by decide +kernel))) rfl
theorem tw_1189 : Cond.instanceMethod yX5_filled ∈ lw_g := tg (tm_5 _ (List.mem_of_getElem? (i := 151) (by decide +kernel))) rfl
theorem tw_1190 : Cond.selects RX5 yX5_filled yX5_filled ∈ lw_g := tg (tm_5 _ (List.mem_of_getElem? (i := 152) (by decide +kernel))) rfl
theorem tw_1191 : Cond.code yX5_filled cX5_filled 4 (some .int) ∈ lw_g := tg (tm_5 _ (List.mem_of_getElem? (i := 153) (by decide +kernel))) rfl
theorem tw_1192 : Cond.methodLink RL 163 yX5_spared ∈ lw_g := tg (tm_5 _ (List.mem_of_getElem? (i := 154) (by decide +kernel))) rfl
theorem tw_1193 : Cond.instanceMethod yX5_spared ∈ lw_g := tg (tm_5 _ (List.mem_of_getElem? (i := 155) (by decide +kernel))) rfl
theorem tw_1194 : Cond.selects RX5 yX5_spared yX5_spared ∈ lw_g := tg (tm_5 _ (List.mem_of_getElem? (i := 156) (by decide +kernel))) rfl
theorem tw_1195 : Cond.code yX5_spared cX5_spared 8 (some .int) ∈ lw_g := tg (tm_5 _ (List.mem_of_getElem? (i := 157) (by decide +kernel))) rfl
theorem tw_1196 : Cond.methodLink RX5 329 yX5_lower ∈ lw_g := tg (tm_5 _ (List.mem_of_getElem? (i := 158) (by decide +kernel))) rfl
theorem tw_1198 : Cond.instanceMethod yX5_lower ∈ lw_g := tg (tm_5 _ (List.mem_of_getElem? (i := 160) (by decide +kernel))) rfl
theorem tw_1199 : Cond.code yX5_lower cX5_lower 2 (some .int) ∈ lw_g := tg (tm_5 _ (List.mem_of_getElem? (i := 161) (by decide +kernel))) rfl
theorem tw_1200 : (Jvm.Cond.constant "TakesWhatItLacksModel" (62 : Nat) (1000000000 : Int32)) ∈ lw_g := tg (tm_5 _ (List.mem_of_getElem? (i := 162) (by decide +kernel))) rfl
theorem tw_1201 : Cond.methodLink RL 167 yX5_race ∈ lw_g := tg (tm_5 _ (List.mem_of_getElem? (i := 163) (by decide +kernel))) rfl
theorem tw_1202 : Cond.instanceMethod yX5_race ∈ lw_g := tg (tm_5 _ (List.mem_of_getElem? (i := 164) (by decide +kernel))) rfl
theorem tw_1203 : Cond.selects RX5 yX5_race yX5_race ∈ lw_g := tg (tm_5 _ (List.mem_of_getElem? (i := 165) (by decide +kernel))) rfl
theorem tw_1204 : Cond.code yX5_race cX5_race 7 (some .int) ∈ lw_g := tg (tm_5 _ (List.mem_of_getElem? (i := 166) (by decide +kernel))) rfl
theorem tw_1205 : Cond.methodLink RL 171 yX5_row ∈ lw_g := tg (tm_5 _ (List.mem_of_getElem? (i := 167) (by decide +kernel))) rfl
theorem tw_1206 : Cond.instanceMethod yX5_row ∈ lw_g := tg (tm_5 _ (List.mem_of_getElem? (i := 168) (by decide +kernel))) rfl
theorem tw_1207 : Cond.selects RX5 yX5_row yX5_row ∈ lw_g := tg (tm_5 _ (List.mem_of_getElem? (i := 169) (by decide +kernel))) rfl
theorem tw_1208 : Cond.code yX5_row cX5_row 3 (some .int) ∈ lw_g := tg (tm_5 _ (List.mem_of_getElem? (i := 170) (by decide +kernel))) rfl
theorem tw_1209 : Cond.methodLink RL 175 yX5_judge ∈ lw_g := tg (tm_5 _ (List.mem_of_getElem? (i := 171) (by decide +kernel))) rfl
theorem tw_1210 : Cond.instanceMethod yX5_judge ∈ lw_g := tg (tm_5 _ (List.mem_of_getElem? (i := 172) (by decide +kernel))) rfl
theorem tw_1211 : Cond.selects RX5 yX5_judge yX5_judge ∈ lw_g := tg (tm_5 _ (List.mem_of_getElem? (i := 173) (by decide +kernel))) rfl
theorem tw_1212 : Cond.code yX5_judge cX5_judge 3 (some .int) ∈ lw_g := tg (tm_5 _ (List.mem_of_getElem? (i := 174) (by decide +kernel))) rfl
theorem tw_1213 : Cond.methodLink RL 179 yX5_clear ∈ lw_g := tg (tm_5 _ (List.mem_of_getElem? (i := 175) (by decide +kernel))) rfl
theorem tw_1214 : Cond.instanceMethod yX5_clear ∈ lw_g := tg (tm_5 _ (List.mem_of_getElem? (i := 176) (by decide +kernel))) rfl
theorem tw_1215 : Cond.selects RX5 yX5_clear yX5_clear ∈ lw_g := tg (tm_5 _ (List.mem_of_getElem? (i := 177) (by decide +kernel))) rfl
theorem tw_1216 : Cond.code yX5_clear cX5_clear 2 (some .int) ∈ lw_g := tg (tm_5 _ (List.mem_of_getElem? (i := 178) (by decide +kernel))) rfl
theorem tw_1217 : Cond.methodLink RL 183 yX5_lots ∈ lw_g := tg (tm_5 _ (List.mem_of_getElem? (i := 179) (by decide +kernel))) rfl
theorem tw_1218 : Cond.instanceMethod yX5_lots ∈ lw_g := tg (tm_5 _ (List.mem_of_getElem? (i := 180) (by decide +kernel))) rfl
theorem tw_1219 : Cond.selects RX5 yX5_lots yX5_lots ∈ lw_g := tg (tm_5 _ (List.mem_of_getElem? (i := 181) (by decide +kernel))) rfl
theorem tw_1220 : Cond.code yX5_lots cX5_lots 8 (some .int) ∈ lw_g := tg (tm_5 _ (List.mem_of_getElem? (i := 182) (by decide +kernel))) rfl
theorem tw_1221 : Cond.methodLink RX5 338 yX5_draw ∈ lw_g := tg (tm_5 _ (List.mem_of_getElem? (i := 183) (by decide +kernel))) rfl
theorem tw_1223 : Cond.instanceMethod yX5_draw ∈ lw_g := tg (tm_5 _ (List.mem_of_getElem? (i := 185) (by decide +kernel))) rfl
theorem tw_1224 : Cond.code yX5_draw cX5_draw 2 (some .int) ∈ lw_g := tg (tm_5 _ (List.mem_of_getElem? (i := 186) (by decide +kernel))) rfl
theorem tw_1225 : (Jvm.Cond.constant "TakesWhatItLacksModel" (335 : Nat) (1103515245 : Int32)) ∈ lw_g := tg (tm_5 _ (List.mem_of_getElem? (i := 187) (by decide +kernel))) rfl
theorem tw_1226 : (Jvm.Cond.constant "TakesWhatItLacksModel" (336 : Nat) (2147483647 : Int32)) ∈ lw_g := tg (tm_5 _ (List.mem_of_getElem? (i := 188) (by decide +kernel))) rfl
theorem tw_1227 : (Jvm.Cond.constant "TakesWhatItLacksModel" (337 : Nat) (65536 : Int32)) ∈ lw_g := tg (tm_5 _ (List.mem_of_getElem? (i := 189) (by decide +kernel))) rfl
theorem tw_1228 : Cond.methodLink RL 195 yX5_count ∈ lw_g := tg (tm_5 _ (List.mem_of_getElem? (i := 190) (by decide +kernel))) rfl
theorem tw_1229 : Cond.instanceMethod yX5_count ∈ lw_g := tg (tm_5 _ (List.mem_of_getElem? (i := 191) (by decide +kernel))) rfl
theorem tw_1230 : Cond.selects RX5 yX5_count yX5_count ∈ lw_g := tg (tm_5 _ (List.mem_of_getElem? (i := 192) (by decide +kernel))) rfl
theorem tw_1231 : Cond.code yX5_count cX5_count 2 (some .int) ∈ lw_g := tg (tm_5 _ (List.mem_of_getElem? (i := 193) (by decide +kernel))) rfl
theorem ui0 : ∀ w ∈ u_ws RX0 TX0 11, w ∈ lw_g := List.forall_mem_cons.mpr ⟨tw_128, List.forall_mem_cons.mpr ⟨tw_130, List.forall_mem_cons.mpr ⟨tw_132, List.forall_mem_cons.mpr ⟨tw_134, List.forall_mem_cons.mpr ⟨tw_136, List.forall_mem_cons.mpr ⟨tw_138, List.forall_mem_cons.mpr ⟨tw_140, List.forall_mem_cons.mpr ⟨tw_142, List.forall_mem_cons.mpr ⟨tw_144, List.forall_mem_cons.mpr ⟨tw_146, List.forall_mem_cons.mpr ⟨tw_148, fun _ h => absurd h List.not_mem_nil⟩⟩⟩⟩⟩⟩⟩⟩⟩⟩⟩
theorem ui1 : ∀ w ∈ u_ws RX1 TX1 2, w ∈ lw_g := List.forall_mem_cons.mpr ⟨tw_185, List.forall_mem_cons.mpr ⟨tw_187, fun _ h => absurd h List.not_mem_nil⟩⟩
theorem ui2 : ∀ w ∈ u_ws RX2 TX2 2, w ∈ lw_g := List.forall_mem_cons.mpr ⟨tw_163, List.forall_mem_cons.mpr ⟨tw_165, fun _ h => absurd h List.not_mem_nil⟩⟩
theorem ui3 : ∀ w ∈ u_ws RX3 TX3 1, w ∈ lw_g := List.forall_mem_cons.mpr ⟨tw_192, fun _ h => absurd h List.not_mem_nil⟩
theorem ui4 : ∀ w ∈ u_ws RX4 TX4 8, w ∈ lw_g := List.forall_mem_cons.mpr ⟨tw_205, List.forall_mem_cons.mpr ⟨tw_207, List.forall_mem_cons.mpr ⟨tw_209, List.forall_mem_cons.mpr ⟨tw_211, List.forall_mem_cons.mpr ⟨tw_213, List.forall_mem_cons.mpr ⟨tw_215, List.forall_mem_cons.mpr ⟨tw_217, List.forall_mem_cons.mpr ⟨tw_219, fun _ h => absurd h List.not_mem_nil⟩⟩⟩⟩⟩⟩⟩⟩
theorem ui5 : ∀ w ∈ u_ws RX5 TX5 34, w ∈ lw_g := List.forall_mem_cons.mpr ⟨tw_724, List.forall_mem_cons.mpr ⟨tw_726, List.forall_mem_cons.mpr ⟨tw_728, List.forall_mem_cons.mpr ⟨tw_730, List.forall_mem_cons.mpr ⟨tw_732, List.forall_mem_cons.mpr ⟨tw_734, List.forall_mem_cons.mpr ⟨tw_736, List.forall_mem_cons.mpr ⟨tw_738, List.forall_mem_cons.mpr ⟨tw_740, List.forall_mem_cons.mpr ⟨tw_742, List.forall_mem_cons.mpr ⟨tw_744, List.forall_mem_cons.mpr ⟨tw_746, List.forall_mem_cons.mpr ⟨tw_748, List.forall_mem_cons.mpr ⟨tw_750, List.forall_mem_cons.mpr ⟨tw_752, List.forall_mem_cons.mpr ⟨tw_754, List.forall_mem_cons.mpr ⟨tw_756, List.forall_mem_cons.mpr ⟨tw_758, List.forall_mem_cons.mpr ⟨tw_760, List.forall_mem_cons.mpr ⟨tw_762, List.forall_mem_cons.mpr ⟨tw_764, List.forall_mem_cons.mpr ⟨tw_766, List.forall_mem_cons.mpr ⟨tw_768, List.forall_mem_cons.mpr ⟨tw_770, List.forall_mem_cons.mpr ⟨tw_772, List.forall_mem_cons.mpr ⟨tw_774, List.forall_mem_cons.mpr ⟨tw_776, List.forall_mem_cons.mpr ⟨tw_778, List.forall_mem_cons.mpr ⟨tw_780, List.forall_mem_cons.mpr ⟨tw_782, List.forall_mem_cons.mpr ⟨tw_784, List.forall_mem_cons.mpr ⟨tw_786, List.forall_mem_cons.mpr ⟨tw_788, List.forall_mem_cons.mpr ⟨tw_790, fun _ h => absurd h List.not_mem_nil⟩⟩⟩⟩⟩⟩⟩⟩⟩⟩⟩⟩⟩⟩⟩⟩⟩⟩⟩⟩⟩⟩⟩⟩⟩⟩⟩⟩⟩⟩⟩⟩⟩⟩
