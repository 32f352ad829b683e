/-! the methods: name, bytes, locals, what it returns, class, kind (0 of an object, 1 static, 2 constructor), parameters -/
abbrev xMI : Type := MethodName × ByteArray × Nat × Option FieldType × Nat × Nat × Nat
def xMI0 : xMI := (⟨"", "", ""⟩, ⟨#[]⟩, 0, none, 99, 99, 0)
def xMT : List xMI := [
  (yX0_init, prog_2_method_1_code, 1, none, 0, 2, 0),
  (yX0_copyFrom, prog_2_method_2_code, 2, none, 0, 0, 1),
  (yX1_init, prog_3_method_1_code, 1, none, 1, 2, 0),
  (yX1_copyFrom, prog_3_method_2_code, 2, none, 1, 0, 1),
  (yX2_init, prog_4_method_1_code, 2, none, 2, 2, 0),
  (yX2_push, prog_4_method_2_code, 2, none, 2, 0, 1),
  (yX2_dropOldest, prog_4_method_3_code, 3, none, 2, 0, 0),
  (yX2_popInto, prog_4_method_4_code, 2, (some .boolean), 2, 0, 1),
  (yX3_init, prog_5_method_1_code, 1, none, 3, 2, 0),
  (yX3_read, prog_5_method_2_code, 4, (some .boolean), 3, 0, 2),
  (yX3_readNumbers, prog_5_method_3_code, 4, (some .boolean), 3, 0, 1),
  (yX3_readNumber, prog_5_method_4_code, 3, (some .int), 3, 0, 1),
  (yX3_hasItsNumbers, prog_5_method_5_code, 1, (some .boolean), 3, 0, 0),
  (yX3_carryOut, prog_5_method_6_code, 2, (some .int), 3, 0, 1),
  (yX3_isDigit, prog_5_method_7_code, 1, (some .boolean), 3, 1, 1),
  (yX4_init, prog_6_method_1_code, 1, none, 4, 2, 0),
  (yX4_begin, prog_6_method_2_code, 5, none, 4, 0, 4),
  (yX4_copyFrom, prog_6_method_3_code, 2, none, 4, 0, 1),
  (yX4_isFree, prog_6_method_4_code, 1, (some .boolean), 4, 0, 0),
  (yX4_isLent, prog_6_method_5_code, 1, (some .boolean), 4, 0, 0),
  (yX4_isOn, prog_6_method_6_code, 3, (some .boolean), 4, 0, 2),
  (yX4_isKeptOn, prog_6_method_7_code, 3, (some .boolean), 4, 0, 2),
  (yX4_hasWords, prog_6_method_8_code, 4, (some .boolean), 4, 0, 3),
  (yX4_goOut, prog_6_method_9_code, 4, none, 4, 0, 3),
  (yX4_goHome, prog_6_method_10_code, 1, none, 4, 0, 0),
  (yX4_loseHome, prog_6_method_11_code, 1, none, 4, 0, 0),
  (yX4_closeGap, prog_6_method_12_code, 2, none, 4, 0, 1),
  (yX5_init, prog_7_method_1_code, 1, none, 5, 2, 0),
  (yX5_hasFault, prog_7_method_2_code, 1, (some .boolean), 5, 0, 0),
  (yX5_rehearse, prog_7_method_3_code, 7, none, 5, 0, 2),
  (yX5_report, prog_7_method_4_code, 4, none, 5, 0, 3),
  (yX6_init, prog_8_method_1_code, 2, none, 6, 2, 0),
  (yX6_copyFrom, prog_8_method_2_code, 3, none, 6, 0, 1),
  (yX6_clientAt, prog_8_method_3_code, 2, (some (.object "LentPhrases$Client")), 6, 0, 1),
  (yX6_chapterAt, prog_8_method_4_code, 2, (some (.object "LentPhrases$Chapter")), 6, 0, 1),
  (yX6_phraseAt, prog_8_method_5_code, 2, (some (.object "LentPhrases$Phrase")), 6, 0, 1),
  (yX6_hasPage, prog_8_method_6_code, 4, (some .boolean), 6, 0, 2),
  (yX6_holderOf, prog_8_method_7_code, 3, (some .int), 6, 0, 1),
  (yX6_purseOf, prog_8_method_8_code, 3, (some .int), 6, 0, 1),
  (yX6_pay, prog_8_method_9_code, 4, none, 6, 0, 3),
  (yX6_receive, prog_8_method_10_code, 4, none, 6, 0, 2),
  (yX6_worthOf, prog_8_method_11_code, 3, (some .int), 6, 0, 1),
  (yX6_addClient, prog_8_method_12_code, 4, (some .int), 6, 0, 2),
  (yX6_addChapter, prog_8_method_13_code, 5, (some .int), 6, 0, 3),
  (yX6_addPhrase, prog_8_method_14_code, 5, (some .int), 6, 0, 4),
  (yX6_placePhrase, prog_8_method_15_code, 5, (some .int), 6, 0, 3),
  (yX6_liftPhrase, prog_8_method_16_code, 4, (some .int), 6, 0, 1),
  (yX6_lendPhrase, prog_8_method_17_code, 9, (some .int), 6, 0, 4),
  (yX6_takeBack, prog_8_method_18_code, 5, (some .int), 6, 0, 1),
  (yX6_clearOut, prog_8_method_19_code, 3, none, 6, 0, 2),
  (yX6_sellChapter, prog_8_method_20_code, 5, (some .int), 6, 0, 3),
  (yX6_endLoansAtHome, prog_8_method_21_code, 4, (some .int), 6, 0, 0),
  (yX6_passDays, prog_8_method_22_code, 2, (some .int), 6, 0, 1),
  (yX6_sendHomeUntil, prog_8_method_23_code, 5, (some .int), 6, 0, 1),
  (yX6_changeSetting, prog_8_method_24_code, 4, (some .int), 6, 0, 2),
  (yX6_isPassing, prog_8_method_25_code, 1, (some .boolean), 6, 1, 1),
  (yX6_isPrice, prog_8_method_26_code, 1, (some .boolean), 6, 1, 1),
  (yX6_placesLeft, prog_8_method_27_code, 5, (some .int), 6, 0, 2),
  (yX6_phraseOnPage, prog_8_method_28_code, 6, (some .int), 6, 0, 3),
  (yX6_numberOf, prog_8_method_29_code, 5, (some .int), 6, 0, 3),
  (yX6_detailOf, prog_8_method_30_code, 3, (some .int), 6, 0, 2),
  (yX6_chaptersOf, prog_8_method_31_code, 4, (some .int), 6, 0, 1),
  (yX6_phrasesOn, prog_8_method_32_code, 4, (some .int), 6, 0, 1),
  (yX6_phrasesIn, prog_8_method_33_code, 4, (some .int), 6, 0, 1),
  (yX6_lentTo, prog_8_method_34_code, 4, (some .int), 6, 0, 1),
  (yX6_lentFrom, prog_8_method_35_code, 4, (some .int), 6, 0, 1),
  (yX6_tellsIn, prog_8_method_36_code, 6, (some .int), 6, 0, 2),
  (yX6_tellsInAll, prog_8_method_37_code, 3, (some .int), 6, 0, 0),
  (yX6_isTell, prog_8_method_38_code, 3, (some .boolean), 6, 0, 1),
  (yX6_othersLike, prog_8_method_39_code, 6, (some .int), 6, 0, 1),
  (yX6_freePhrases, prog_8_method_40_code, 3, (some .int), 6, 0, 0),
  (yX6_lentPhrases, prog_8_method_41_code, 3, (some .int), 6, 0, 0),
  (yX6_firstWords, prog_8_method_42_code, 7, (some .int), 6, 0, 0),
  (yX7_init, prog_9_method_1_code, 1, none, 7, 2, 0),
  (yX7_append, prog_9_method_2_code, 2, (some .int), 7, 0, 1),
  (yX7_empty, prog_9_method_3_code, 2, (some .int), 7, 0, 0),
  (yX7_signAt, prog_9_method_4_code, 2, (some .char), 7, 0, 1),
  (yX8_init, prog_1_method_1_code, 1, none, 8, 2, 0),
  (yX8_client, prog_1_method_2_code, 3, (some .int), 8, 0, 2),
  (yX8_chapter, prog_1_method_3_code, 4, (some .int), 8, 0, 3),
  (yX8_phrase, prog_1_method_4_code, 5, (some .int), 8, 0, 4),
  (yX8_place, prog_1_method_5_code, 4, (some .int), 8, 0, 3),
  (yX8_lift, prog_1_method_6_code, 2, (some .int), 8, 0, 1),
  (yX8_lend, prog_1_method_7_code, 5, (some .int), 8, 0, 4),
  (yX8_buyBack, prog_1_method_8_code, 2, (some .int), 8, 0, 1),
  (yX8_sell, prog_1_method_9_code, 4, (some .int), 8, 0, 3),
  (yX8_pass, prog_1_method_10_code, 2, (some .int), 8, 0, 1),
  (yX8_set, prog_1_method_11_code, 3, (some .int), 8, 0, 2),
  (yX8_clientOf, prog_1_method_12_code, 4, (some .int), 8, 0, 2),
  (yX8_chapterOf, prog_1_method_13_code, 4, (some .int), 8, 0, 2),
  (yX8_phraseOf, prog_1_method_14_code, 5, (some .int), 8, 0, 2),
  (yX8_find, prog_1_method_15_code, 5, (some .int), 8, 0, 3),
  (yX8_on, prog_1_method_16_code, 5, (some .int), 8, 0, 3),
  (yX8_tells, prog_1_method_17_code, 3, (some .int), 8, 0, 2),
  (yX8_alike, prog_1_method_18_code, 3, (some .int), 8, 0, 1),
  (yX8_count, prog_1_method_19_code, 2, (some .int), 8, 0, 1),
  (yX8_coming, prog_1_method_20_code, 5, (some .int), 8, 0, 2),
  (yX8_best, prog_1_method_21_code, 6, (some .int), 8, 0, 1),
  (yX8_tellsWithout, prog_1_method_22_code, 3, (some .int), 8, 0, 1),
  (yX8_keep, prog_1_method_23_code, 1, (some .int), 8, 0, 0),
  (yX8_restore, prog_1_method_24_code, 1, (some .int), 8, 0, 0),
  (yX8_undo, prog_1_method_25_code, 1, (some .int), 8, 0, 0),
  (yX8_type, prog_1_method_26_code, 2, (some .int), 8, 0, 1),
  (yX8_clearText, prog_1_method_27_code, 1, (some .int), 8, 0, 0),
  (yX8_fault, prog_1_method_28_code, 2, (some .int), 8, 0, 1),
  (yX8_play, prog_1_method_29_code, 1, (some .int), 8, 0, 0),
  (yX8_rehearsal, prog_1_method_30_code, 1, (some (.object "LentPhrases$State")), 8, 0, 0),
  (yX8_settle, prog_1_method_31_code, 2, (some .int), 8, 0, 1),
  (yX8_within, prog_1_method_32_code, 3, (some .boolean), 8, 1, 3),
  (yX8_isVoice, prog_1_method_33_code, 1, (some .boolean), 8, 1, 1),
  (yX8_areWords, prog_1_method_34_code, 3, (some .boolean), 8, 1, 3),
  (yX9_init, prog_11_method_1_code, 1, none, 9, 2, 0),
  (yX9_in, prog_11_method_3_code, 3, (some .boolean), 9, 1, 3),
  (yX9_copies, prog_11_method_4_code, 3, none, 9, 1, 2),
  (yX9_changes, prog_11_method_5_code, 2, none, 9, 0, 0),
  (yX9_isClient, prog_11_method_6_code, 2, (some .boolean), 9, 0, 1),
  (yX9_isChapter, prog_11_method_7_code, 2, (some .boolean), 9, 0, 1),
  (yX9_isPage, prog_11_method_8_code, 3, (some .boolean), 9, 0, 2),
  (yX9_isPhrase, prog_11_method_9_code, 2, (some .boolean), 9, 0, 1),
  (yX9_ofClient, prog_11_method_10_code, 3, (some .int), 9, 0, 2),
  (yX9_ofChapter, prog_11_method_11_code, 3, (some .int), 9, 0, 2),
  (yX9_of, prog_11_method_12_code, 3, (some .int), 9, 0, 2),
  (yX9_sets, prog_11_method_13_code, 4, none, 9, 0, 3),
  (yX9_isFree, prog_11_method_14_code, 2, (some .boolean), 9, 0, 1),
  (yX9_isLent, prog_11_method_15_code, 2, (some .boolean), 9, 0, 1),
  (yX9_bookOf, prog_11_method_16_code, 2, (some .int), 9, 0, 1),
  (yX9_client, prog_11_method_17_code, 4, (some .int), 9, 0, 2),
  (yX9_chapter, prog_11_method_18_code, 5, (some .int), 9, 0, 3),
  (yX9_areWords, prog_11_method_19_code, 3, (some .boolean), 9, 1, 3),
  (yX9_found, prog_11_method_20_code, 5, (some .int), 9, 0, 3),
  (yX9_goesFree, prog_11_method_21_code, 2, none, 9, 0, 1),
  (yX9_phrase, prog_11_method_22_code, 6, (some .int), 9, 0, 4),
  (yX9_left, prog_11_method_23_code, 5, (some .int), 9, 0, 2),
  (yX9_puts, prog_11_method_24_code, 4, none, 9, 0, 3),
  (yX9_place, prog_11_method_25_code, 4, (some .int), 9, 0, 3),
  (yX9_lift, prog_11_method_26_code, 3, (some .int), 9, 0, 1),
  (yX9_lend, prog_11_method_27_code, 7, (some .int), 9, 0, 4),
  (yX9_goesHome, prog_11_method_28_code, 4, none, 9, 0, 1),
  (yX9_worth, prog_11_method_29_code, 3, (some .int), 9, 0, 1),
  (yX9_leaves, prog_11_method_30_code, 3, none, 9, 0, 1),
  (yX9_buysBack, prog_11_method_31_code, 4, (some .int), 9, 0, 1),
  (yX9_buyBack, prog_11_method_32_code, 2, (some .int), 9, 0, 1),
  (yX9_sell, prog_11_method_33_code, 8, (some .int), 9, 0, 3),
  (yX9_begins, prog_11_method_34_code, 3, (some .int), 9, 0, 0),
  (yX9_passes, prog_11_method_35_code, 4, (some .int), 9, 0, 1),
  (yX9_pass, prog_11_method_36_code, 2, (some .int), 9, 0, 1),
  (yX9_set, prog_11_method_37_code, 4, (some .int), 9, 0, 2),
  (yX9_chaptersOf, prog_11_method_38_code, 4, (some .int), 9, 0, 1),
  (yX9_inBook, prog_11_method_39_code, 5, (some .int), 9, 0, 2),
  (yX9_lentFrom, prog_11_method_40_code, 4, (some .int), 9, 0, 1),
  (yX9_tellsIn, prog_11_method_41_code, 6, (some .int), 9, 0, 2),
  (yX9_allTells, prog_11_method_42_code, 3, (some .int), 9, 0, 0),
  (yX9_clientOf, prog_11_method_43_code, 3, (some .int), 9, 0, 2),
  (yX9_onChapter, prog_11_method_44_code, 4, (some .int), 9, 0, 1),
  (yX9_chapterOf, prog_11_method_45_code, 3, (some .int), 9, 0, 2),
  (yX9_phraseOf, prog_11_method_46_code, 4, (some .int), 9, 0, 2),
  (yX9_find, prog_11_method_47_code, 4, (some .int), 9, 0, 3),
  (yX9_on, prog_11_method_48_code, 6, (some .int), 9, 0, 3),
  (yX9_tells, prog_11_method_49_code, 3, (some .int), 9, 0, 2),
  (yX9_alike, prog_11_method_50_code, 4, (some .int), 9, 0, 1),
  (yX9_ofPhrases, prog_11_method_51_code, 4, (some .int), 9, 0, 1),
  (yX9_firstWords, prog_11_method_52_code, 5, (some .int), 9, 0, 0),
  (yX9_count, prog_11_method_53_code, 2, (some .int), 9, 0, 1),
  (yX9_coming, prog_11_method_54_code, 5, (some .int), 9, 0, 2),
  (yX9_best, prog_11_method_55_code, 8, (some .int), 9, 0, 1),
  (yX9_keep, prog_11_method_56_code, 1, (some .int), 9, 0, 0),
  (yX9_restore, prog_11_method_57_code, 1, (some .int), 9, 0, 0),
  (yX9_undo, prog_11_method_58_code, 2, (some .int), 9, 0, 0),
  (yX9_type, prog_11_method_59_code, 2, (some .int), 9, 0, 1),
  (yX9_clearText, prog_11_method_60_code, 2, (some .int), 9, 0, 0),
  (yX9_isAt, prog_11_method_61_code, 3, (some .boolean), 9, 0, 2),
  (yX9_sign, prog_11_method_62_code, 3, (some .boolean), 9, 0, 1),
  (yX9_numbered, prog_11_method_63_code, 3, (some .boolean), 9, 0, 0),
  (yX9_areMany, prog_11_method_64_code, 1, (some .boolean), 9, 0, 0),
  (yX9_reads, prog_11_method_65_code, 2, (some .boolean), 9, 0, 0),
  (yX9_calls, prog_11_method_66_code, 1, (some .int), 9, 0, 0),
  (yX9_plays, prog_11_method_67_code, 3, (some .boolean), 9, 0, 0),
  (yX9_fault, prog_11_method_68_code, 3, (some .int), 9, 0, 1),
  (yX9_play, prog_11_method_69_code, 2, (some .int), 9, 0, 0),
  (yL_law, code, 4, (some .boolean), 10, 1, 1)]
def xM (o : Nat) : xMI := (xMT[o]?).getD xMI0
def xY (o : Nat) : MethodName := (xM o).1
def xB (o : Nat) : ByteArray := (xM o).2.1
def xL (o : Nat) : Nat := (xM o).2.2.1
def xRt (o : Nat) : Option FieldType := (xM o).2.2.2.1
def xCl (o : Nat) : Nat := (xM o).2.2.2.2.1
def xKd (o : Nat) : Nat := (xM o).2.2.2.2.2.1
def xAr (o : Nat) : Nat := (xM o).2.2.2.2.2.2
def xCN : Nat → String
  | 0 => RX0
  | 1 => RX1
  | 2 => RX2
  | 3 => RX3
  | 4 => RX4
  | 5 => RX5
  | 6 => RX6
  | 7 => RX7
  | 8 => RX8
  | 9 => RX9
  | 10 => RL
  | _ => "java/lang/Math"
/-- calls: class, entry, method, 1 by the nest -/
def xRT : List (Nat × Nat × Nat × Nat) := [(2, 19, 31, 0), (2, 20, 6, 0), (2, 23, 32, 0), (3, 15, 76, 0), (3, 31, 10, 0), (3, 35, 12, 0), (3, 39, 14, 0), (3, 43, 11, 0), (3, 47, 44, 0), (3, 53, 45, 0), (3, 57, 47, 0), (3, 60, 46, 0), (3, 64, 52, 0), (4, 33, 25, 0), (5, 11, 8, 1), (5, 30, 28, 0), (5, 34, 9, 0), (5, 38, 13, 0), (5, 43, 30, 0), (6, 54, 2, 1), (6, 55, 0, 1), (6, 56, 15, 1), (6, 57, 3, 0), (6, 61, 1, 0), (6, 64, 17, 0), (6, 67, 34, 0), (6, 77, 33, 0), (6, 84, 40, 0), (6, 100, 109, 1), (6, 104, 108, 1), (6, 113, 56, 0), (6, 116, 38, 0), (6, 121, 39, 0), (6, 125, 110, 1), (6, 128, 59, 0), (6, 132, 16, 0), (6, 136, 35, 0), (6, 140, 36, 0), (6, 144, 18, 0), (6, 148, 57, 0), (6, 157, 19, 0), (6, 160, 24, 0), (6, 163, 37, 0), (6, 166, 23, 0), (6, 169, 41, 0), (6, 173, 49, 0), (6, 180, 25, 0), (6, 183, 26, 0), (6, 187, 51, 0), (6, 191, 55, 0), (6, 194, 53, 0), (6, 200, 20, 0), (6, 203, 21, 0), (6, 206, 22, 0), (6, 225, 68, 0), (7, 19, 108, 1), (8, 9, 31, 0), (8, 24, 4, 0), (8, 31, 73, 1), (8, 38, 27, 1), (8, 43, 106, 0), (8, 47, 42, 0), (8, 51, 107, 0), (8, 55, 43, 0), (8, 59, 44, 0), (8, 63, 45, 0), (8, 66, 46, 0), (8, 69, 47, 0), (8, 72, 48, 0), (8, 75, 50, 0), (8, 78, 52, 0), (8, 81, 54, 0), (8, 84, 33, 0), (8, 98, 61, 0), (8, 101, 63, 0), (8, 104, 64, 0), (8, 107, 65, 0), (8, 110, 66, 0), (8, 113, 34, 0), (8, 131, 62, 0), (8, 134, 41, 0), (8, 138, 35, 0), (8, 142, 108, 0), (8, 146, 60, 0), (8, 151, 110, 0), (8, 154, 59, 0), (8, 157, 36, 0), (8, 161, 57, 0), (8, 164, 58, 0), (8, 167, 18, 0), (8, 174, 69, 0), (8, 189, 70, 0), (8, 193, 71, 0), (8, 212, 72, 0), (8, 221, 55, 0), (8, 225, 53, 0), (8, 228, 67, 0), (8, 231, 98, 0), (8, 234, 32, 0), (8, 238, 5, 0), (8, 241, 7, 0), (8, 245, 74, 0), (8, 248, 75, 0), (8, 251, 29, 0), (8, 255, 28, 0), (9, 39, 116, 0), (9, 43, 120, 0), (9, 47, 121, 0), (9, 50, 112, 0), (9, 56, 114, 0), (9, 59, 115, 0), (9, 62, 119, 0), (9, 67, 122, 0), (9, 71, 128, 0), (9, 74, 129, 0), (9, 78, 130, 0), (9, 82, 118, 0), (9, 85, 117, 0), (9, 89, 123, 0), (9, 92, 132, 0), (9, 95, 133, 0), (9, 98, 124, 0), (9, 101, 125, 0), (9, 105, 137, 0), (9, 108, 138, 0), (9, 111, 139, 0), (9, 114, 140, 0), (9, 117, 143, 0), (9, 121, 144, 0), (9, 124, 150, 0), (9, 127, 147, 0), (9, 130, 148, 0), (9, 134, 149, 0), (9, 137, 153, 0), (9, 140, 160, 0), (9, 150, 161, 0), (9, 153, 113, 0), (9, 157, 151, 0), (9, 163, 170, 0), (9, 172, 172, 0), (9, 176, 171, 0), (9, 179, 173, 0), (9, 182, 131, 0), (9, 186, 134, 0), (9, 189, 136, 0), (9, 192, 135, 0), (9, 195, 145, 0), (9, 204, 174, 0), (9, 207, 175, 0), (9, 216, 176, 0), (10, 9, 77, 0), (10, 12, 111, 0), (10, 13, 78, 0), (10, 17, 126, 0), (10, 18, 79, 0), (10, 22, 127, 0), (10, 23, 80, 0), (10, 27, 131, 0), (10, 28, 81, 0), (10, 31, 134, 0), (10, 32, 82, 0), (10, 36, 135, 0), (10, 37, 83, 0), (10, 40, 136, 0), (10, 41, 84, 0), (10, 44, 141, 0), (10, 45, 85, 0), (10, 48, 142, 0), (10, 49, 86, 0), (10, 52, 145, 0), (10, 53, 87, 0), (10, 56, 146, 0), (10, 57, 88, 0), (10, 60, 152, 0), (10, 61, 89, 0), (10, 64, 154, 0), (10, 65, 90, 0), (10, 68, 155, 0), (10, 69, 91, 0), (10, 72, 156, 0), (10, 73, 92, 0), (10, 76, 157, 0), (10, 77, 93, 0), (10, 80, 158, 0), (10, 81, 94, 0), (10, 84, 159, 0), (10, 85, 95, 0), (10, 88, 162, 0), (10, 89, 96, 0), (10, 92, 163, 0), (10, 93, 97, 0), (10, 96, 164, 0), (10, 97, 99, 0), (10, 101, 165, 0), (10, 102, 100, 0), (10, 105, 166, 0), (10, 106, 101, 0), (10, 109, 167, 0), (10, 110, 102, 0), (10, 113, 168, 0), (10, 114, 103, 0), (10, 117, 169, 0), (10, 118, 104, 0), (10, 121, 177, 0), (10, 122, 105, 0), (10, 125, 178, 0)]
/-- fields: class, entry, class of the field, its place, 0 a number, 1 a truth, 2 a cell -/
def xFT : List (Nat × Nat × Nat × Nat × Nat) := [(0, 7, 0, 0, 0), (0, 13, 0, 1, 0), (0, 16, 0, 2, 0), (0, 19, 0, 3, 0), (1, 7, 1, 0, 0), (1, 13, 1, 1, 0), (2, 11, 2, 0, 2), (2, 15, 2, 1, 0), (3, 11, 3, 0, 2), (3, 21, 3, 1, 0), (3, 25, 3, 3, 0), (3, 28, 3, 2, 0), (4, 9, 4, 0, 0), (4, 15, 4, 1, 0), (4, 18, 4, 2, 0), (4, 21, 4, 3, 0), (4, 24, 4, 4, 0), (4, 27, 4, 5, 0), (4, 30, 4, 6, 0), (4, 36, 4, 9, 0), (4, 39, 4, 7, 0), (4, 42, 4, 8, 0), (5, 12, 5, 0, 2), (5, 18, 5, 2, 0), (5, 22, 5, 1, 0), (5, 27, 7, 1, 0), (5, 47, 3, 3, 0), (5, 50, 5, 3, 0), (5, 53, 5, 4, 0), (6, 13, 6, 0, 2), (6, 19, 6, 1, 2), (6, 25, 6, 2, 2), (6, 29, 6, 3, 0), (6, 33, 6, 4, 0), (6, 36, 6, 5, 0), (6, 39, 6, 6, 0), (6, 42, 6, 7, 0), (6, 45, 6, 8, 0), (6, 48, 6, 9, 0), (6, 51, 6, 10, 0), (6, 71, 0, 1, 0), (6, 74, 0, 0, 0), (6, 81, 1, 1, 0), (6, 88, 0, 3, 0), (6, 97, 0, 2, 0), (6, 110, 1, 0, 0), (6, 151, 4, 4, 0), (6, 154, 4, 5, 0), (6, 177, 4, 7, 0), (6, 197, 4, 6, 0), (6, 209, 4, 0, 0), (6, 210, 4, 1, 0), (6, 213, 4, 2, 0), (6, 216, 4, 3, 0), (6, 219, 4, 8, 0), (6, 222, 4, 9, 0), (7, 11, 7, 0, 2), (7, 15, 7, 1, 0), (8, 10, 8, 0, 2), (8, 16, 8, 1, 2), (8, 19, 8, 2, 2), (8, 25, 8, 3, 2), (8, 32, 8, 4, 2), (8, 39, 8, 5, 2), (8, 89, 1, 0, 0), (8, 95, 1, 1, 0), (8, 117, 0, 0, 0), (8, 122, 0, 1, 0), (8, 125, 0, 2, 0), (8, 128, 0, 3, 0), (8, 177, 6, 3, 0), (8, 180, 6, 4, 0), (8, 183, 6, 5, 0), (8, 186, 6, 6, 0), (8, 196, 6, 7, 0), (8, 199, 6, 8, 0), (8, 202, 2, 1, 0), (8, 205, 7, 1, 0), (8, 208, 8, 6, 1), (8, 215, 6, 9, 0), (8, 218, 6, 10, 0), (8, 258, 5, 2, 0), (8, 261, 5, 3, 0), (8, 264, 5, 4, 0), (8, 267, 5, 1, 0), (9, 7, 9, 0, 2), (9, 13, 9, 1, 2), (9, 16, 9, 2, 2), (9, 19, 9, 3, 2), (9, 22, 9, 4, 2), (9, 25, 9, 8, 2), (9, 28, 9, 17, 2), (9, 31, 9, 6, 1), (9, 35, 9, 7, 0), (9, 144, 9, 9, 0), (9, 147, 9, 5, 1), (9, 160, 9, 10, 0), (9, 166, 9, 16, 0), (9, 169, 9, 15, 0), (9, 198, 9, 11, 0), (9, 201, 9, 14, 0), (9, 210, 9, 13, 0), (9, 213, 9, 12, 0)]
/-- Object.<init>: class, entry -/
def xOT : List (Nat × Nat) := [(0, 1), (1, 1), (2, 1), (3, 3), (4, 3), (5, 3), (6, 3), (7, 3), (8, 1), (9, 1)]
/-- Math.max: class, entry -/
def xJT : List (Nat × Nat) := [(6, 91)]
/-- new: class, entry, class made -/
def xNT : List (Nat × Nat × Nat) := [(2, 9, 6), (5, 9, 3), (6, 11, 1), (6, 17, 0), (6, 23, 4), (8, 7, 6), (8, 22, 2), (8, 29, 7), (8, 36, 5), (10, 7, 8), (10, 10, 9)]
/-- anewarray: class, entry, kind -/
def xAT : List (Nat × Nat × Nat) := [(2, 9, 15), (6, 11, 12), (6, 17, 13), (6, 23, 14)]
/-- ldc: class, entry, number -/
def xKT : List (Nat × Nat × Int32) := [(3, 67, -100001), (5, 42, -100004), (6, 108, -100001), (6, 109, -100003), (6, 120, -100002), (7, 23, -100001), (7, 24, -100003), (8, 88, -100001), (8, 150, -100004), (8, 173, -100002), (9, 54, -100001), (9, 55, -100003), (9, 65, -100002), (9, 66, -100004)]
def xTC : Nat → u_T
  | 0 => TX0
  | 1 => TX1
  | 2 => TX2
  | 3 => TX3
  | 4 => TX4
  | 5 => TX5
  | 6 => TX6
  | 7 => TX7
  | 8 => TX8
  | _ => TX9
def xNF : Nat → Nat
  | 0 => 4
  | 1 => 2
  | 2 => 2
  | 3 => 4
  | 4 => 10
  | 5 => 5
  | 6 => 11
  | 7 => 2
  | 8 => 7
  | 9 => 18
  | _ => 0
def xTy : Nat → Nat → FieldType
  | 0 => tyX0
  | 1 => tyX1
  | 2 => tyX2
  | 3 => tyX3
  | 4 => tyX4
  | 5 => tyX5
  | 6 => tyX6
  | 7 => tyX7
  | 8 => tyX8
  | _ => tyX9
def xEl : Nat → Nat
  | 12 => 1
  | 13 => 0
  | 14 => 4
  | _ => 6
def xETy : Nat → FieldType
  | 10 => .int
  | 11 => .char
  | k => .object (xCN (xEl k))
def xHost : String := "LentPhrases"
def xNs : Cond → Bool
  | .methodLinkNest _ _ _ _ => true
  | .arrayOver (.object _) => true
  | _ => false
def wsG : List Cond := lw_tbl.filter goodWord
def wsN : List Cond := lw_tbl.filter xNs
def xAt (i : Nat) (w : Cond) : Bool := decide (lw_tbl[i]? = some w) && goodWord w
def xIn (w : Cond) : Prop := w ∈ wsG
theorem xAt_in {i : Nat} {w : Cond} (h : xAt i w = true) : w ∈ wsG := by
  simp only [xAt, Bool.and_eq_true, decide_eq_true_eq] at h
  exact List.mem_filter.mpr ⟨List.mem_of_getElem? h.1, h.2⟩
def xMok (q : xMI) (a b d e : Nat) : Bool :=
  xAt a (.code q.1 q.2.1 q.2.2.1 q.2.2.2.1) && xAt b (.initialized q.1.cls) && decide (q.1.cls = xCN q.2.2.2.2.1) && decide (q.1.cls ≠ "java/lang/invoke/MethodHandle" ∧ q.1.cls ≠ "java/lang/invoke/VarHandle") && plainName q.1.cls && decide ((parseMethodDescriptor q.1.desc).map (fun d => d.parameters.length) = some q.2.2.2.2.2.2) && decide (q.2.2.1 ≤ 16) &&
  (if q.2.2.2.2.2.1 = 0 then xAt d (.instanceMethod q.1) && xAt e (.selects q.1.cls q.1 q.1) && decide (q.2.2.2.2.1 < 10)
   else if q.2.2.2.2.2.1 = 1 then xAt d (.static q.1) else xAt d (.instanceMethod q.1) && decide (q.1.name = "<init>") && decide (q.2.2.2.1 = none))
def xMall (z : List (Nat × Nat × Nat × Nat)) (i : Nat) : Bool := match z with
  | [] => true
  | q :: r => xMok (xM i) q.1 q.2.1 q.2.2.1 q.2.2.2 && xMall r (i + 1)
def xRok (q : Nat × Nat × Nat × Nat) (a : Nat) : Bool := decide (q.2.2.1 < 179) && (if q.2.2.2 = 0 then xAt a (.methodLink (xCN q.1) q.2.1 (xY q.2.2.1)) else decide (lw_tbl[a]? = some (Cond.methodLinkNest (xCN q.1) q.2.1 (xY q.2.2.1) xHost)))
def xFok (q : Nat × Nat × Nat × Nat × Nat) (a : Nat) : Bool := decide (q.2.2.1 < 10) && decide (q.2.2.2.1 < xNF q.2.2.1) && xAt a (.fieldLink (xCN q.1) q.2.1 (xTC q.2.2.1 q.2.2.2.1).1 (xTC q.2.2.1 q.2.2.2.1).2.1 (xTC q.2.2.1 q.2.2.2.1).2.2.1) && decide ((xTC q.2.2.1 q.2.2.2.1).1 = xCN q.2.2.1) &&
  (match q.2.2.2.2, xTy q.2.2.1 q.2.2.2.1 with
   | 0, .int => true
   | 1, .boolean => true
   | 2, .object _ => true
   | 2, .array _ => true
   | _, _ => false)
def xOok (q : Nat × Nat) (a : Nat) : Bool := xAt a (.methodLink (xCN q.1) q.2 Lib.objectInit)
def xNok (q : Nat × Nat × Nat) (a : Nat × Nat × Nat) : Bool := decide (q.2.2 < 10) && xAt a.1 (.classLink (xCN q.1) q.2.1 (xCN q.2.2)) && xAt a.2.1 (.instantiable (xCN q.2.2) (xNF q.2.2)) && xAt a.2.2 (.initialized (xCN q.2.2))
def xAok (q : Nat × Nat × Nat) (a : Nat × Nat) : Bool := decide (12 ≤ q.2.2 ∧ q.2.2 ≤ 15) && xAt a.1 (.classLink (xCN q.1) q.2.1 (xCN (xEl q.2.2))) && decide (lw_tbl[a.2]? = some (.arrayOver (.object (xCN (xEl q.2.2)))))
def xKok (q : Nat × Nat × Int32) (a : Nat) : Bool := xAt a (.constant (xCN q.1) q.2.1 q.2.2)
def xZip {α β : Type} (f : α → β → Bool) : List α → List β → Bool
  | [], _ => true
  | a :: r, b :: s => f a b && xZip f r s
  | _ :: _, [] => false

set_option maxRecDepth 100000 in
theorem xMT_ok0 : xMall [(102, 55, 101, 0), (334, 55, 332, 333), (86, 54, 85, 0), (330, 54, 328, 329), (217, 57, 216, 0), (359, 57, 357, 358), (363, 57, 362, 2), (676, 57, 674, 675), (256, 60, 255, 0), (711, 60, 709, 710), (719, 60, 718, 10), (726, 60, 725, 11), (730, 60, 729, 12), (734, 60, 732, 733), (722, 60, 721, 0), (128, 56, 127, 0), (415, 56, 413, 414), (338, 56, 336, 337), (443, 56, 441, 442), (467, 56, 465, 466), (451, 56, 449, 450), (455, 56, 453, 454), (411, 56, 409, 410), (487, 56, 485, 486), (471, 56, 469, 470), (419, 56, 417, 418), (511, 56, 509, 510), (250, 59, 249, 0), (707, 59, 705, 706), (703, 59, 701, 702)] 0 = true := by decide +kernel
set_option maxRecDepth 100000 in
theorem xMT_ok1 : xMall [(745, 59, 744, 13), (75, 53, 74, 0), (326, 53, 324, 325), (376, 53, 374, 375), (439, 53, 437, 438), (431, 53, 429, 430), (435, 53, 433, 434), (483, 53, 481, 482), (383, 53, 382, 3), (388, 53, 387, 4), (392, 53, 391, 5), (499, 53, 497, 498), (342, 53, 340, 341), (372, 53, 370, 371), (400, 53, 398, 399), (427, 53, 425, 426), (463, 53, 461, 462), (479, 53, 477, 478), (495, 53, 493, 494), (506, 53, 505, 6), (519, 53, 517, 518), (523, 53, 522, 7), (531, 53, 529, 530), (538, 53, 536, 537), (546, 53, 544, 545), (534, 53, 533, 0), (379, 53, 378, 0), (447, 53, 445, 446), (612, 53, 610, 611), (407, 53, 405, 406)] 30 = true := by decide +kernel
set_option maxRecDepth 100000 in
theorem xMT_ok2 : xMall [(595, 53, 593, 594), (556, 53, 554, 555), (585, 53, 583, 584), (560, 53, 558, 559), (564, 53, 562, 563), (568, 53, 566, 567), (572, 53, 570, 571), (652, 53, 650, 651), (576, 53, 575, 8), (626, 53, 624, 625), (634, 53, 632, 633), (638, 53, 636, 637), (642, 53, 640, 641), (234, 58, 233, 0), (684, 58, 682, 683), (695, 58, 693, 694), (715, 58, 713, 714), (67, 52, 66, 0), (318, 52, 316, 317), (368, 52, 366, 367), (396, 52, 394, 395), (423, 52, 421, 422), (459, 52, 457, 458), (475, 52, 473, 474), (491, 52, 489, 490), (515, 52, 513, 514), (527, 52, 525, 526), (542, 52, 540, 541), (550, 52, 548, 549), (580, 52, 578, 579)] 60 = true := by decide +kernel
set_option maxRecDepth 100000 in
theorem xMT_ok3 : xMall [(590, 52, 588, 589), (600, 52, 598, 599), (606, 52, 604, 605), (616, 52, 614, 615), (620, 52, 618, 619), (630, 52, 628, 629), (646, 52, 644, 645), (656, 52, 654, 655), (660, 52, 659, 9), (664, 52, 662, 663), (668, 52, 666, 667), (672, 52, 670, 671), (680, 52, 678, 679), (691, 52, 689, 690), (699, 52, 697, 698), (750, 52, 748, 749), (322, 52, 321, 0), (355, 52, 354, 1), (348, 52, 347, 0), (345, 52, 344, 0), (403, 52, 402, 0), (755, 61, 754, 0), (818, 61, 817, 0), (1016, 61, 1015, 0), (824, 61, 823, 14), (832, 61, 831, 15), (877, 61, 876, 23), (873, 61, 872, 22), (869, 61, 868, 21), (836, 61, 835, 16)] 90 = true := by decide +kernel
set_option maxRecDepth 100000 in
theorem xMT_ok4 : xMall [(881, 61, 880, 24), (852, 61, 851, 18), (857, 61, 856, 19), (885, 61, 884, 25), (901, 61, 900, 28), (909, 61, 908, 29), (815, 61, 813, 814), (828, 61, 826, 827), (844, 61, 843, 0), (848, 61, 847, 17), (861, 61, 860, 20), (841, 61, 839, 840), (889, 61, 888, 26), (893, 61, 892, 27), (865, 61, 863, 864), (897, 61, 895, 896), (905, 61, 903, 904), (929, 61, 928, 33), (921, 61, 920, 31), (925, 61, 924, 32), (917, 61, 916, 30), (913, 61, 911, 912), (933, 61, 931, 932), (945, 61, 944, 35), (941, 61, 940, 34), (937, 61, 935, 936), (949, 61, 947, 948), (957, 61, 956, 36), (961, 61, 960, 37), (965, 61, 964, 38)] 120 = true := by decide +kernel
set_option maxRecDepth 100000 in
theorem xMT_ok5 : xMall [(969, 61, 968, 39), (1020, 61, 1019, 43), (953, 61, 951, 952), (977, 61, 976, 40), (973, 61, 971, 972), (981, 61, 979, 980), (985, 61, 983, 984), (989, 61, 987, 988), (993, 61, 991, 992), (997, 61, 995, 996), (1005, 61, 1004, 41), (1009, 61, 1008, 42), (1001, 61, 999, 1000), (1013, 61, 1011, 1012), (1024, 61, 1022, 1023), (1028, 61, 1026, 1027), (1032, 61, 1030, 1031), (1036, 61, 1034, 1035), (1040, 61, 1038, 1039), (1044, 61, 1042, 1043), (1060, 61, 1059, 46), (1068, 61, 1067, 48), (1064, 61, 1063, 47), (1072, 61, 1071, 49), (1056, 61, 1055, 45), (1076, 61, 1075, 50), (1052, 61, 1051, 44), (1048, 61, 1046, 1047), (1085, 61, 1083, 1084)] 150 = true := by decide +kernel
set_option maxRecDepth 100000 in
theorem xRT_ok0 : xZip xRok ((xRT.drop 0).take 30) ([221, 360, 364, 712, 716, 727, 720, 723, 735, 736, 737, 738, 739, 416, 254, 704, 708, 731, 742, 84, 100, 126, 327, 331, 335, 436, 373, 389, 343, 349] : List (Nat)) = true := by decide +kernel
set_option maxRecDepth 100000 in
theorem xRT_ok1 : xZip xRok ((xRT.drop 30).take 30) ([377, 380, 385, 401, 404, 412, 428, 432, 440, 444, 464, 468, 480, 484, 496, 503, 507, 508, 520, 532, 535, 448, 452, 408, 573, 685, 73, 215, 232, 248] : List (Nat)) = true := by decide +kernel
set_option maxRecDepth 100000 in
theorem xRT_ok2 : xZip xRok ((xRT.drop 60).take 30) ([319, 339, 352, 369, 397, 424, 460, 476, 492, 516, 528, 543, 551, 553, 557, 561, 565, 569, 581, 582, 586, 591, 346, 592, 601, 602, 607, 608, 609, 621] : List (Nat)) = true := by decide +kernel
set_option maxRecDepth 100000 in
theorem xRT_ok3 : xZip xRok ((xRT.drop 90).take 30) ([623, 631, 635, 639, 647, 648, 649, 657, 323, 356, 673, 681, 692, 700, 746, 874, 878, 849, 816, 821, 829, 833, 854, 842, 845, 858, 866, 870, 882, 886] : List (Nat)) = true := by decide +kernel
set_option maxRecDepth 100000 in
theorem xRT_ok4 : xZip xRok ((xRT.drop 120).take 30) ([890, 898, 906, 926, 918, 922, 914, 942, 938, 966, 954, 958, 962, 974, 1002, 1006, 1014, 1017, 1057, 1061, 1065, 1069, 1077, 1078, 1079, 1080, 1081, 1053, 1073, 1049] : List (Nat)) = true := by decide +kernel
set_option maxRecDepth 100000 in
theorem xRT_ok5 : xZip xRok ((xRT.drop 150).take 30) ([65, 753, 315, 812, 365, 825, 393, 838, 420, 862, 456, 894, 472, 902, 488, 910, 512, 930, 524, 934, 539, 946, 547, 950, 577, 970, 587, 978, 597, 982] : List (Nat)) = true := by decide +kernel
set_option maxRecDepth 100000 in
theorem xRT_ok6 : xZip xRok ((xRT.drop 180).take 30) ([603, 986, 613, 990, 617, 994, 627, 998, 643, 1010, 653, 1021, 661, 1025, 665, 1029, 669, 1033, 677, 1037, 688, 1041, 696, 1045, 747, 1082] : List (Nat)) = true := by decide +kernel
set_option maxRecDepth 100000 in
theorem xFT_ok0 : xZip xFok ((xFT.drop 0).take 30) ([104, 107, 110, 113, 88, 91, 222, 223, 258, 259, 261, 260, 130, 132, 134, 136, 138, 140, 142, 148, 144, 146, 273, 276, 274, 238, 262, 278, 280, 171] : List (Nat)) = true := by decide +kernel
set_option maxRecDepth 100000 in
theorem xFT_ok1 : xZip xFok ((xFT.drop 30).take 30) ([172, 173, 174, 176, 178, 180, 182, 184, 186, 188, 108, 105, 92, 114, 111, 89, 139, 141, 145, 143, 131, 133, 135, 137, 147, 149, 236, 237, 293, 294] : List (Nat)) = true := by decide +kernel
set_option maxRecDepth 100000 in
theorem xFT_ok2 : xZip xFok ((xFT.drop 60).take 30) ([295, 296, 297, 298, 90, 93, 106, 109, 112, 115, 175, 177, 179, 181, 183, 185, 224, 239, 299, 187, 189, 277, 279, 281, 275, 757, 758, 759, 760, 761] : List (Nat)) = true := by decide +kernel
set_option maxRecDepth 100000 in
theorem xFT_ok3 : xZip xFok ((xFT.drop 90).take 30) ([765, 774, 763, 764, 766, 762, 767, 773, 772, 768, 771, 770, 769] : List (Nat)) = true := by decide +kernel
set_option maxRecDepth 100000 in
theorem xOT_ok0 : xZip xOok ((xOT.drop 0).take 30) ([103, 87, 218, 257, 129, 251, 76, 235, 68, 756] : List (Nat)) = true := by decide +kernel
set_option maxRecDepth 100000 in
theorem xNT_ok0 : xZip xNok ((xNT.drop 0).take 30) ([(219, 72, 53), (252, 253, 60), (77, 83, 54), (79, 99, 55), (81, 125, 56), (71, 72, 53), (213, 214, 57), (230, 231, 58), (246, 247, 59), (63, 64, 52), (751, 752, 61)] : List (Nat × Nat × Nat)) = true := by decide +kernel
set_option maxRecDepth 100000 in
theorem xAT_ok0 : xZip xAok ((xAT.drop 0).take 30) ([(219, 220), (77, 78), (79, 80), (81, 82)] : List (Nat × Nat)) = true := by decide +kernel
set_option maxRecDepth 100000 in
theorem xKT_ok0 : xZip xKok ((xKT.drop 0).take 30) ([740, 741, 350, 351, 384, 686, 687, 552, 596, 622, 819, 820, 837, 853] : List (Nat)) = true := by decide +kernel
def xJok (q : Nat × Nat) (a : Nat) : Bool := xAt a (.methodLink (xCN q.1) q.2 Lib.Math.max.name) && xAt 501 (.static Lib.Math.max.name) && xAt 62 (.initialized "java/lang/Math") && xAt 502 (.code Lib.Math.max.name Lib.Math.max.code 2 (some .int))
set_option maxRecDepth 100000 in
theorem xJT_ok0 : xZip xJok ((xJT.drop 0).take 30) ([500] : List (Nat)) = true := by decide +kernel
def xLL : List (Nat × Nat) := (List.range 10).flatMap fun c => (List.range (xNF c)).map fun k => (c, k)
set_option maxRecDepth 100000 in
theorem xLay_ok : xZip (fun (q : Nat × Nat) (a : Nat) => xAt a (u_lay (xCN q.1) (xTC q.1) q.2)) xLL ([116, 118, 120, 122, 94, 96, 225, 227, 263, 265, 267, 269, 150, 152, 154, 156, 158, 160, 162, 164, 166, 168, 282, 284, 286, 288, 290, 190, 192, 194, 196, 198, 200, 202, 204, 206, 208, 210, 240, 242, 300, 302, 304, 306, 308, 310, 312, 775, 777, 779, 781, 783, 785, 787, 789, 791, 793, 795, 797, 799, 801, 803, 805, 807, 809] : List Nat) = true := by decide +kernel
set_option maxRecDepth 100000 in
theorem xIns_ok : xZip (fun (q : Nat) (a : Nat) => xAt a (.instantiable (xCN q) (xNF q))) (List.range 10) ([99, 83, 214, 253, 125, 247, 72, 231, 64, 752] : List Nat) = true := by decide +kernel
set_option maxRecDepth 100000 in
theorem xObj_ok : (xAt 69 (.instanceMethod Lib.objectInit) && xAt 70 (.code Lib.objectInit ⟨#[0xb1]⟩ 1 none) && xAt 272 (.arrayClass .int) && xAt 245 (.arrayClass .char)) = true := by decide +kernel
theorem xCls (c : Nat) (h : c < 10) : vwCl[c]? = some (xCN c, xTC c, xNF c) := by
  match c, h with
  | 0, _ => rfl
  | 1, _ => rfl
  | 2, _ => rfl
  | 3, _ => rfl
  | 4, _ => rfl
  | 5, _ => rfl
  | 6, _ => rfl
  | 7, _ => rfl
  | 8, _ => rfl
  | 9, _ => rfl
theorem xNm (c : Nat) (h : c < 10) : ∀ a, a < xNF c → ∀ b, b < xNF c → a ≠ b → (xTC c a).2.1 ≠ (xTC c b).2.1 := by
  match c, h with
  | 0, _ => exact nmX0
  | 1, _ => exact nmX1
  | 2, _ => exact nmX2
  | 3, _ => exact nmX3
  | 4, _ => exact nmX4
  | 5, _ => exact nmX5
  | 6, _ => exact nmX6
  | 7, _ => exact nmX7
  | 8, _ => exact nmX8
  | 9, _ => exact nmX9
theorem xTyok (c : Nat) (h : c < 10) : ∀ k, k < xNF c → parseFieldDescriptor (xTC c k).2.2.1 = some (xTy c k) := by
  match c, h with
  | 0, _ => exact tyX0_ok
  | 1, _ => exact tyX1_ok
  | 2, _ => exact tyX2_ok
  | 3, _ => exact tyX3_ok
  | 4, _ => exact tyX4_ok
  | 5, _ => exact tyX5_ok
  | 6, _ => exact tyX6_ok
  | 7, _ => exact tyX7_ok
  | 8, _ => exact tyX8_ok
  | 9, _ => exact tyX9_ok
