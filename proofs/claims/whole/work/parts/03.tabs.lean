/-! the methods: name, bytes, locals, what it returns, class, kind (0 of an object, 1 static, 2 constructor), parameters -/
abbrev xMI : Type := MethodName × ByteArray × Nat × Option FieldType × Nat × Nat × Nat
def xMI0 : xMI := (⟨"", "", ""⟩, ⟨#[]⟩, 0, none, 99, 99, 0)
def xMT : List xMI := [
  (yX0_init, prog_2_method_1_code, 1, none, 0, 2, 0),
  (yX0_copyFrom, prog_2_method_2_code, 2, none, 0, 0, 1),
  (yX1_init, prog_3_method_1_code, 1, none, 1, 2, 0),
  (yX1_copyFrom, prog_3_method_2_code, 2, none, 1, 0, 1),
  (yX2_init, prog_4_method_1_code, 2, none, 2, 2, 0),
  (yX2_push, prog_4_method_2_code, 2, none, 2, 0, 1),
  (yX2_dropOldest, prog_4_method_3_code, 3, none, 2, 0, 0),
  (yX2_popInto, prog_4_method_4_code, 2, (some .boolean), 2, 0, 1),
  (yX3_init, prog_5_method_1_code, 1, none, 3, 2, 0),
  (yX3_read, prog_5_method_2_code, 4, (some .boolean), 3, 0, 2),
  (yX3_readNumbers, prog_5_method_3_code, 4, (some .boolean), 3, 0, 1),
  (yX3_readNumber, prog_5_method_4_code, 3, (some .int), 3, 0, 1),
  (yX3_hasItsNumbers, prog_5_method_5_code, 1, (some .boolean), 3, 0, 0),
  (yX3_carryOut, prog_5_method_6_code, 2, (some .int), 3, 0, 1),
  (yX3_isDigit, prog_5_method_7_code, 1, (some .boolean), 3, 1, 1),
  (yX4_init, prog_6_method_1_code, 1, none, 4, 2, 0),
  (yX4_begin, prog_6_method_2_code, 5, none, 4, 0, 4),
  (yX4_copyFrom, prog_6_method_3_code, 2, none, 4, 0, 1),
  (yX4_isFree, prog_6_method_4_code, 1, (some .boolean), 4, 0, 0),
  (yX4_isLent, prog_6_method_5_code, 1, (some .boolean), 4, 0, 0),
  (yX4_isOn, prog_6_method_6_code, 3, (some .boolean), 4, 0, 2),
  (yX4_isKeptOn, prog_6_method_7_code, 3, (some .boolean), 4, 0, 2),
  (yX4_hasWords, prog_6_method_8_code, 4, (some .boolean), 4, 0, 3),
  (yX4_goOut, prog_6_method_9_code, 4, none, 4, 0, 3),
  (yX4_goHome, prog_6_method_10_code, 1, none, 4, 0, 0),
  (yX4_loseHome, prog_6_method_11_code, 1, none, 4, 0, 0),
  (yX4_closeGap, prog_6_method_12_code, 2, none, 4, 0, 1),
  (yX5_init, prog_7_method_1_code, 1, none, 5, 2, 0),
  (yX5_hasFault, prog_7_method_2_code, 1, (some .boolean), 5, 0, 0),
  (yX5_rehearse, prog_7_method_3_code, 5, none, 5, 0, 2),
  (yX5_rehearseOrder, prog_7_method_4_code, 5, none, 5, 0, 3),
  (yX6_init, prog_8_method_1_code, 2, none, 6, 2, 0),
  (yX6_copyFrom, prog_8_method_2_code, 3, none, 6, 0, 1),
  (yX6_clientAt, prog_8_method_3_code, 2, (some (.object "LentPhrases$Client")), 6, 0, 1),
  (yX6_chapterAt, prog_8_method_4_code, 2, (some (.object "LentPhrases$Chapter")), 6, 0, 1),
  (yX6_phraseAt, prog_8_method_5_code, 2, (some (.object "LentPhrases$Phrase")), 6, 0, 1),
  (yX6_hasPage, prog_8_method_6_code, 4, (some .boolean), 6, 0, 2),
  (yX6_holderOf, prog_8_method_7_code, 3, (some .int), 6, 0, 1),
  (yX6_purseOf, prog_8_method_8_code, 3, (some .int), 6, 0, 1),
  (yX6_pay, prog_8_method_9_code, 4, none, 6, 0, 3),
  (yX6_receive, prog_8_method_10_code, 4, none, 6, 0, 2),
  (yX6_worthOf, prog_8_method_11_code, 3, (some .int), 6, 0, 1),
  (yX6_addClient, prog_8_method_12_code, 4, (some .int), 6, 0, 2),
  (yX6_addChapter, prog_8_method_13_code, 5, (some .int), 6, 0, 3),
  (yX6_addPhrase, prog_8_method_14_code, 5, (some .int), 6, 0, 4),
  (yX6_placePhrase, prog_8_method_15_code, 5, (some .int), 6, 0, 3),
  (yX6_liftPhrase, prog_8_method_16_code, 4, (some .int), 6, 0, 1),
  (yX6_lendPhrase, prog_8_method_17_code, 9, (some .int), 6, 0, 4),
  (yX6_takeBack, prog_8_method_18_code, 5, (some .int), 6, 0, 1),
  (yX6_clearOut, prog_8_method_19_code, 3, none, 6, 0, 2),
  (yX6_sellChapter, prog_8_method_20_code, 5, (some .int), 6, 0, 3),
  (yX6_endLoansAtHome, prog_8_method_21_code, 4, (some .int), 6, 0, 0),
  (yX6_passDays, prog_8_method_22_code, 2, (some .int), 6, 0, 1),
  (yX6_sendHomeUntil, prog_8_method_23_code, 5, (some .int), 6, 0, 1),
  (yX6_changeSetting, prog_8_method_24_code, 4, (some .int), 6, 0, 2),
  (yX6_isPassing, prog_8_method_25_code, 1, (some .boolean), 6, 1, 1),
  (yX6_isPrice, prog_8_method_26_code, 1, (some .boolean), 6, 1, 1),
  (yX6_placesLeft, prog_8_method_27_code, 5, (some .int), 6, 0, 2),
  (yX6_phraseOnPage, prog_8_method_28_code, 6, (some .int), 6, 0, 3),
  (yX6_numberOf, prog_8_method_29_code, 5, (some .int), 6, 0, 3),
  (yX6_detailOf, prog_8_method_30_code, 3, (some .int), 6, 0, 2),
  (yX6_chaptersOf, prog_8_method_31_code, 4, (some .int), 6, 0, 1),
  (yX6_phrasesOn, prog_8_method_32_code, 4, (some .int), 6, 0, 1),
  (yX6_phrasesIn, prog_8_method_33_code, 4, (some .int), 6, 0, 1),
  (yX6_lentTo, prog_8_method_34_code, 4, (some .int), 6, 0, 1),
  (yX6_lentFrom, prog_8_method_35_code, 4, (some .int), 6, 0, 1),
  (yX6_tellsIn, prog_8_method_36_code, 8, (some .int), 6, 0, 2),
  (yX6_tellsInAll, prog_8_method_37_code, 3, (some .int), 6, 0, 0),
  (yX6_othersLike, prog_8_method_38_code, 6, (some .int), 6, 0, 1),
  (yX6_freePhrases, prog_8_method_39_code, 3, (some .int), 6, 0, 0),
  (yX6_lentPhrases, prog_8_method_40_code, 3, (some .int), 6, 0, 0),
  (yX6_firstWords, prog_8_method_41_code, 7, (some .int), 6, 0, 0),
  (yX7_init, prog_9_method_1_code, 1, none, 7, 2, 0),
  (yX7_append, prog_9_method_2_code, 2, (some .int), 7, 0, 1),
  (yX7_empty, prog_9_method_3_code, 2, (some .int), 7, 0, 0),
  (yX7_signAt, prog_9_method_4_code, 2, (some .char), 7, 0, 1),
  (yX8_init, prog_1_method_1_code, 1, none, 8, 2, 0),
  (yX8_client, prog_1_method_2_code, 3, (some .int), 8, 0, 2),
  (yX8_chapter, prog_1_method_3_code, 4, (some .int), 8, 0, 3),
  (yX8_phrase, prog_1_method_4_code, 5, (some .int), 8, 0, 4),
  (yX8_place, prog_1_method_5_code, 4, (some .int), 8, 0, 3),
  (yX8_lift, prog_1_method_6_code, 2, (some .int), 8, 0, 1),
  (yX8_lend, prog_1_method_7_code, 5, (some .int), 8, 0, 4),
  (yX8_buyBack, prog_1_method_8_code, 2, (some .int), 8, 0, 1),
  (yX8_sell, prog_1_method_9_code, 4, (some .int), 8, 0, 3),
  (yX8_pass, prog_1_method_10_code, 2, (some .int), 8, 0, 1),
  (yX8_set, prog_1_method_11_code, 3, (some .int), 8, 0, 2),
  (yX8_clientOf, prog_1_method_12_code, 4, (some .int), 8, 0, 2),
  (yX8_chapterOf, prog_1_method_13_code, 4, (some .int), 8, 0, 2),
  (yX8_phraseOf, prog_1_method_14_code, 5, (some .int), 8, 0, 2),
  (yX8_find, prog_1_method_15_code, 5, (some .int), 8, 0, 3),
  (yX8_on, prog_1_method_16_code, 5, (some .int), 8, 0, 3),
  (yX8_tells, prog_1_method_17_code, 3, (some .int), 8, 0, 2),
  (yX8_alike, prog_1_method_18_code, 3, (some .int), 8, 0, 1),
  (yX8_count, prog_1_method_19_code, 2, (some .int), 8, 0, 1),
  (yX8_coming, prog_1_method_20_code, 5, (some .int), 8, 0, 2),
  (yX8_best, prog_1_method_21_code, 6, (some .int), 8, 0, 1),
  (yX8_tellsWithout, prog_1_method_22_code, 3, (some .int), 8, 0, 1),
  (yX8_keep, prog_1_method_23_code, 1, (some .int), 8, 0, 0),
  (yX8_restore, prog_1_method_24_code, 1, (some .int), 8, 0, 0),
  (yX8_undo, prog_1_method_25_code, 1, (some .int), 8, 0, 0),
  (yX8_type, prog_1_method_26_code, 2, (some .int), 8, 0, 1),
  (yX8_clearText, prog_1_method_27_code, 1, (some .int), 8, 0, 0),
  (yX8_fault, prog_1_method_28_code, 2, (some .int), 8, 0, 1),
  (yX8_play, prog_1_method_29_code, 1, (some .int), 8, 0, 0),
  (yX8_rehearsal, prog_1_method_30_code, 1, (some (.object "LentPhrases$State")), 8, 0, 0),
  (yX8_settle, prog_1_method_31_code, 2, (some .int), 8, 0, 1),
  (yX8_within, prog_1_method_32_code, 3, (some .boolean), 8, 1, 3),
  (yX8_isVoice, prog_1_method_33_code, 1, (some .boolean), 8, 1, 1),
  (yX8_areWords, prog_1_method_34_code, 3, (some .boolean), 8, 1, 3),
  (yX9_init, prog_11_method_1_code, 1, none, 9, 2, 0),
  (yX9_in, prog_11_method_3_code, 3, (some .boolean), 9, 1, 3),
  (yX9_copies, prog_11_method_4_code, 3, none, 9, 1, 2),
  (yX9_changes, prog_11_method_5_code, 2, none, 9, 0, 0),
  (yX9_isClient, prog_11_method_6_code, 2, (some .boolean), 9, 0, 1),
  (yX9_isChapter, prog_11_method_7_code, 2, (some .boolean), 9, 0, 1),
  (yX9_isPage, prog_11_method_8_code, 3, (some .boolean), 9, 0, 2),
  (yX9_isPhrase, prog_11_method_9_code, 2, (some .boolean), 9, 0, 1),
  (yX9_ofClient, prog_11_method_10_code, 3, (some .int), 9, 0, 2),
  (yX9_ofChapter, prog_11_method_11_code, 3, (some .int), 9, 0, 2),
  (yX9_of, prog_11_method_12_code, 3, (some .int), 9, 0, 2),
  (yX9_sets, prog_11_method_13_code, 4, none, 9, 0, 3),
  (yX9_isFree, prog_11_method_14_code, 2, (some .boolean), 9, 0, 1),
  (yX9_isLent, prog_11_method_15_code, 2, (some .boolean), 9, 0, 1),
  (yX9_bookOf, prog_11_method_16_code, 2, (some .int), 9, 0, 1),
  (yX9_client, prog_11_method_17_code, 4, (some .int), 9, 0, 2),
  (yX9_chapter, prog_11_method_18_code, 5, (some .int), 9, 0, 3),
  (yX9_areWords, prog_11_method_19_code, 3, (some .boolean), 9, 1, 3),
  (yX9_found, prog_11_method_20_code, 5, (some .int), 9, 0, 3),
  (yX9_goesFree, prog_11_method_21_code, 2, none, 9, 0, 1),
  (yX9_phrase, prog_11_method_22_code, 6, (some .int), 9, 0, 4),
  (yX9_left, prog_11_method_23_code, 5, (some .int), 9, 0, 2),
  (yX9_puts, prog_11_method_24_code, 4, none, 9, 0, 3),
  (yX9_place, prog_11_method_25_code, 4, (some .int), 9, 0, 3),
  (yX9_lift, prog_11_method_26_code, 3, (some .int), 9, 0, 1),
  (yX9_lend, prog_11_method_27_code, 7, (some .int), 9, 0, 4),
  (yX9_goesHome, prog_11_method_28_code, 4, none, 9, 0, 1),
  (yX9_worth, prog_11_method_29_code, 3, (some .int), 9, 0, 1),
  (yX9_leaves, prog_11_method_30_code, 3, none, 9, 0, 1),
  (yX9_buysBack, prog_11_method_31_code, 4, (some .int), 9, 0, 1),
  (yX9_buyBack, prog_11_method_32_code, 2, (some .int), 9, 0, 1),
  (yX9_sell, prog_11_method_33_code, 8, (some .int), 9, 0, 3),
  (yX9_begins, prog_11_method_34_code, 3, (some .int), 9, 0, 0),
  (yX9_passes, prog_11_method_35_code, 4, (some .int), 9, 0, 1),
  (yX9_pass, prog_11_method_36_code, 2, (some .int), 9, 0, 1),
  (yX9_set, prog_11_method_37_code, 4, (some .int), 9, 0, 2),
  (yX9_chaptersOf, prog_11_method_38_code, 4, (some .int), 9, 0, 1),
  (yX9_inBook, prog_11_method_39_code, 5, (some .int), 9, 0, 2),
  (yX9_lentFrom, prog_11_method_40_code, 4, (some .int), 9, 0, 1),
  (yX9_tellsIn, prog_11_method_41_code, 6, (some .int), 9, 0, 2),
  (yX9_allTells, prog_11_method_42_code, 3, (some .int), 9, 0, 0),
  (yX9_clientOf, prog_11_method_43_code, 3, (some .int), 9, 0, 2),
  (yX9_onChapter, prog_11_method_44_code, 4, (some .int), 9, 0, 1),
  (yX9_chapterOf, prog_11_method_45_code, 3, (some .int), 9, 0, 2),
  (yX9_phraseOf, prog_11_method_46_code, 4, (some .int), 9, 0, 2),
  (yX9_find, prog_11_method_47_code, 4, (some .int), 9, 0, 3),
  (yX9_on, prog_11_method_48_code, 6, (some .int), 9, 0, 3),
  (yX9_tells, prog_11_method_49_code, 3, (some .int), 9, 0, 2),
  (yX9_alike, prog_11_method_50_code, 4, (some .int), 9, 0, 1),
  (yX9_ofPhrases, prog_11_method_51_code, 4, (some .int), 9, 0, 1),
  (yX9_firstWords, prog_11_method_52_code, 5, (some .int), 9, 0, 0),
  (yX9_count, prog_11_method_53_code, 2, (some .int), 9, 0, 1),
  (yX9_coming, prog_11_method_54_code, 5, (some .int), 9, 0, 2),
  (yX9_best, prog_11_method_55_code, 8, (some .int), 9, 0, 1),
  (yX9_keep, prog_11_method_56_code, 1, (some .int), 9, 0, 0),
  (yX9_restore, prog_11_method_57_code, 1, (some .int), 9, 0, 0),
  (yX9_undo, prog_11_method_58_code, 2, (some .int), 9, 0, 0),
  (yX9_type, prog_11_method_59_code, 2, (some .int), 9, 0, 1),
  (yX9_clearText, prog_11_method_60_code, 2, (some .int), 9, 0, 0),
  (yX9_isAt, prog_11_method_61_code, 3, (some .boolean), 9, 0, 2),
  (yX9_sign, prog_11_method_62_code, 3, (some .boolean), 9, 0, 1),
  (yX9_numbered, prog_11_method_63_code, 3, (some .boolean), 9, 0, 0),
  (yX9_areMany, prog_11_method_64_code, 1, (some .boolean), 9, 0, 0),
  (yX9_reads, prog_11_method_65_code, 2, (some .boolean), 9, 0, 0),
  (yX9_calls, prog_11_method_66_code, 1, (some .int), 9, 0, 0),
  (yX9_plays, prog_11_method_67_code, 3, (some .boolean), 9, 0, 0),
  (yX9_fault, prog_11_method_68_code, 3, (some .int), 9, 0, 1),
  (yX9_play, prog_11_method_69_code, 2, (some .int), 9, 0, 0),
  (yL_law, code, 4, (some .boolean), 10, 1, 1)]
def xM (o : Nat) : xMI := (xMT[o]?).getD xMI0
def xY (o : Nat) : MethodName := (xM o).1
def xB (o : Nat) : ByteArray := (xM o).2.1
def xL (o : Nat) : Nat := (xM o).2.2.1
def xRt (o : Nat) : Option FieldType := (xM o).2.2.2.1
def xCl (o : Nat) : Nat := (xM o).2.2.2.2.1
def xKd (o : Nat) : Nat := (xM o).2.2.2.2.2.1
def xAr (o : Nat) : Nat := (xM o).2.2.2.2.2.2
def xCN : Nat → String
  | 0 => RX0
  | 1 => RX1
  | 2 => RX2
  | 3 => RX3
  | 4 => RX4
  | 5 => RX5
  | 6 => RX6
  | 7 => RX7
  | 8 => RX8
  | 9 => RX9
  | 10 => RL
  | _ => "java/lang/Math"
/-- calls: class, entry, method, 1 by the nest -/
def xRT : List (Nat × Nat × Nat × Nat) := [(2, 19, 31, 0), (2, 20, 6, 0), (2, 23, 32, 0), (3, 15, 75, 0), (3, 31, 10, 0), (3, 35, 12, 0), (3, 39, 14, 0), (3, 43, 11, 0), (3, 47, 44, 0), (3, 53, 45, 0), (3, 57, 47, 0), (3, 60, 46, 0), (3, 64, 52, 0), (4, 33, 25, 0), (5, 11, 8, 1), (5, 30, 28, 0), (5, 34, 30, 0), (5, 41, 9, 0), (5, 51, 13, 0), (6, 54, 2, 1), (6, 55, 0, 1), (6, 56, 15, 1), (6, 57, 3, 0), (6, 61, 1, 0), (6, 64, 17, 0), (6, 67, 34, 0), (6, 77, 33, 0), (6, 84, 40, 0), (6, 100, 108, 1), (6, 104, 107, 1), (6, 113, 56, 0), (6, 116, 38, 0), (6, 121, 39, 0), (6, 125, 109, 1), (6, 128, 59, 0), (6, 132, 16, 0), (6, 136, 35, 0), (6, 140, 36, 0), (6, 144, 18, 0), (6, 148, 57, 0), (6, 157, 19, 0), (6, 160, 24, 0), (6, 163, 37, 0), (6, 166, 23, 0), (6, 169, 41, 0), (6, 173, 49, 0), (6, 180, 25, 0), (6, 183, 26, 0), (6, 187, 51, 0), (6, 191, 55, 0), (6, 194, 53, 0), (6, 200, 20, 0), (6, 203, 21, 0), (6, 206, 22, 0), (6, 225, 66, 0), (7, 19, 107, 1), (8, 9, 31, 0), (8, 24, 4, 0), (8, 31, 72, 1), (8, 38, 27, 1), (8, 43, 105, 0), (8, 47, 42, 0), (8, 51, 106, 0), (8, 55, 43, 0), (8, 59, 44, 0), (8, 63, 45, 0), (8, 66, 46, 0), (8, 69, 47, 0), (8, 72, 48, 0), (8, 75, 50, 0), (8, 78, 52, 0), (8, 81, 54, 0), (8, 84, 33, 0), (8, 98, 61, 0), (8, 101, 63, 0), (8, 104, 64, 0), (8, 107, 65, 0), (8, 110, 66, 0), (8, 113, 34, 0), (8, 131, 62, 0), (8, 134, 41, 0), (8, 138, 35, 0), (8, 142, 107, 0), (8, 146, 60, 0), (8, 151, 109, 0), (8, 154, 59, 0), (8, 157, 36, 0), (8, 161, 57, 0), (8, 164, 58, 0), (8, 167, 18, 0), (8, 174, 68, 0), (8, 189, 69, 0), (8, 193, 70, 0), (8, 212, 71, 0), (8, 221, 55, 0), (8, 225, 53, 0), (8, 228, 67, 0), (8, 231, 97, 0), (8, 234, 32, 0), (8, 238, 5, 0), (8, 241, 7, 0), (8, 245, 73, 0), (8, 248, 74, 0), (8, 251, 29, 0), (8, 255, 28, 0), (9, 39, 115, 0), (9, 43, 119, 0), (9, 47, 120, 0), (9, 50, 111, 0), (9, 56, 113, 0), (9, 59, 114, 0), (9, 62, 118, 0), (9, 67, 121, 0), (9, 71, 127, 0), (9, 74, 128, 0), (9, 78, 129, 0), (9, 82, 117, 0), (9, 85, 116, 0), (9, 89, 122, 0), (9, 92, 131, 0), (9, 95, 132, 0), (9, 98, 123, 0), (9, 101, 124, 0), (9, 105, 136, 0), (9, 108, 137, 0), (9, 111, 138, 0), (9, 114, 139, 0), (9, 117, 142, 0), (9, 121, 143, 0), (9, 124, 149, 0), (9, 127, 146, 0), (9, 130, 147, 0), (9, 134, 148, 0), (9, 137, 152, 0), (9, 140, 159, 0), (9, 150, 160, 0), (9, 153, 112, 0), (9, 157, 150, 0), (9, 163, 169, 0), (9, 172, 171, 0), (9, 176, 170, 0), (9, 179, 172, 0), (9, 182, 130, 0), (9, 186, 133, 0), (9, 189, 135, 0), (9, 192, 134, 0), (9, 195, 144, 0), (9, 204, 173, 0), (9, 207, 174, 0), (9, 216, 175, 0), (10, 9, 76, 0), (10, 12, 110, 0), (10, 13, 77, 0), (10, 17, 125, 0), (10, 18, 78, 0), (10, 22, 126, 0), (10, 23, 79, 0), (10, 27, 130, 0), (10, 28, 80, 0), (10, 31, 133, 0), (10, 32, 81, 0), (10, 36, 134, 0), (10, 37, 82, 0), (10, 40, 135, 0), (10, 41, 83, 0), (10, 44, 140, 0), (10, 45, 84, 0), (10, 48, 141, 0), (10, 49, 85, 0), (10, 52, 144, 0), (10, 53, 86, 0), (10, 56, 145, 0), (10, 57, 87, 0), (10, 60, 151, 0), (10, 61, 88, 0), (10, 64, 153, 0), (10, 65, 89, 0), (10, 68, 154, 0), (10, 69, 90, 0), (10, 72, 155, 0), (10, 73, 91, 0), (10, 76, 156, 0), (10, 77, 92, 0), (10, 80, 157, 0), (10, 81, 93, 0), (10, 84, 158, 0), (10, 85, 94, 0), (10, 88, 161, 0), (10, 89, 95, 0), (10, 92, 162, 0), (10, 93, 96, 0), (10, 96, 163, 0), (10, 97, 98, 0), (10, 101, 164, 0), (10, 102, 99, 0), (10, 105, 165, 0), (10, 106, 100, 0), (10, 109, 166, 0), (10, 110, 101, 0), (10, 113, 167, 0), (10, 114, 102, 0), (10, 117, 168, 0), (10, 118, 103, 0), (10, 121, 176, 0), (10, 122, 104, 0), (10, 125, 177, 0)]
/-- fields: class, entry, class of the field, its place, 0 a number, 1 a truth, 2 a cell -/
def xFT : List (Nat × Nat × Nat × Nat × Nat) := [(0, 7, 0, 0, 0), (0, 13, 0, 1, 0), (0, 16, 0, 2, 0), (0, 19, 0, 3, 0), (1, 7, 1, 0, 0), (1, 13, 1, 1, 0), (2, 11, 2, 0, 2), (2, 15, 2, 1, 0), (3, 11, 3, 0, 2), (3, 21, 3, 1, 0), (3, 25, 3, 3, 0), (3, 28, 3, 2, 0), (4, 9, 4, 0, 0), (4, 15, 4, 1, 0), (4, 18, 4, 2, 0), (4, 21, 4, 3, 0), (4, 24, 4, 4, 0), (4, 27, 4, 5, 0), (4, 30, 4, 6, 0), (4, 36, 4, 9, 0), (4, 39, 4, 7, 0), (4, 42, 4, 8, 0), (5, 12, 5, 0, 2), (5, 18, 5, 2, 0), (5, 22, 5, 1, 0), (5, 27, 7, 1, 0), (5, 38, 3, 3, 0), (5, 45, 5, 3, 0), (5, 48, 5, 4, 0), (6, 13, 6, 0, 2), (6, 19, 6, 1, 2), (6, 25, 6, 2, 2), (6, 29, 6, 3, 0), (6, 33, 6, 4, 0), (6, 36, 6, 5, 0), (6, 39, 6, 6, 0), (6, 42, 6, 7, 0), (6, 45, 6, 8, 0), (6, 48, 6, 9, 0), (6, 51, 6, 10, 0), (6, 71, 0, 1, 0), (6, 74, 0, 0, 0), (6, 81, 1, 1, 0), (6, 88, 0, 3, 0), (6, 97, 0, 2, 0), (6, 110, 1, 0, 0), (6, 151, 4, 4, 0), (6, 154, 4, 5, 0), (6, 177, 4, 7, 0), (6, 197, 4, 6, 0), (6, 209, 4, 0, 0), (6, 210, 4, 1, 0), (6, 213, 4, 2, 0), (6, 216, 4, 3, 0), (6, 219, 4, 8, 0), (6, 222, 4, 9, 0), (7, 11, 7, 0, 2), (7, 15, 7, 1, 0), (8, 10, 8, 0, 2), (8, 16, 8, 1, 2), (8, 19, 8, 2, 2), (8, 25, 8, 3, 2), (8, 32, 8, 4, 2), (8, 39, 8, 5, 2), (8, 89, 1, 0, 0), (8, 95, 1, 1, 0), (8, 117, 0, 0, 0), (8, 122, 0, 1, 0), (8, 125, 0, 2, 0), (8, 128, 0, 3, 0), (8, 177, 6, 3, 0), (8, 180, 6, 4, 0), (8, 183, 6, 5, 0), (8, 186, 6, 6, 0), (8, 196, 6, 7, 0), (8, 199, 6, 8, 0), (8, 202, 2, 1, 0), (8, 205, 7, 1, 0), (8, 208, 8, 6, 1), (8, 215, 6, 9, 0), (8, 218, 6, 10, 0), (8, 258, 5, 2, 0), (8, 261, 5, 3, 0), (8, 264, 5, 4, 0), (8, 267, 5, 1, 0), (9, 7, 9, 0, 2), (9, 13, 9, 1, 2), (9, 16, 9, 2, 2), (9, 19, 9, 3, 2), (9, 22, 9, 4, 2), (9, 25, 9, 8, 2), (9, 28, 9, 17, 2), (9, 31, 9, 6, 1), (9, 35, 9, 7, 0), (9, 144, 9, 9, 0), (9, 147, 9, 5, 1), (9, 160, 9, 10, 0), (9, 166, 9, 16, 0), (9, 169, 9, 15, 0), (9, 198, 9, 11, 0), (9, 201, 9, 14, 0), (9, 210, 9, 13, 0), (9, 213, 9, 12, 0)]
/-- Object.<init>: class, entry -/
def xOT : List (Nat × Nat) := [(0, 1), (1, 1), (2, 1), (3, 3), (4, 3), (5, 3), (6, 3), (7, 3), (8, 1), (9, 1)]
/-- Math.max: class, entry -/
def xJT : List (Nat × Nat) := [(6, 91)]
/-- new: class, entry, class made -/
def xNT : List (Nat × Nat × Nat) := [(2, 9, 6), (5, 9, 3), (6, 11, 1), (6, 17, 0), (6, 23, 4), (8, 7, 6), (8, 22, 2), (8, 29, 7), (8, 36, 5), (10, 7, 8), (10, 10, 9)]
/-- anewarray: class, entry, kind -/
def xAT : List (Nat × Nat × Nat) := [(2, 9, 15), (6, 11, 12), (6, 17, 13), (6, 23, 14)]
/-- ldc: class, entry, number -/
def xKT : List (Nat × Nat × Int32) := [(3, 67, -100001), (6, 108, -100001), (6, 109, -100003), (6, 120, -100002), (7, 23, -100001), (7, 24, -100003), (8, 88, -100001), (8, 150, -100004), (8, 173, -100002), (9, 54, -100001), (9, 55, -100003), (9, 65, -100002), (9, 66, -100004)]
def xTC : Nat → u_T
  | 0 => TX0
  | 1 => TX1
  | 2 => TX2
  | 3 => TX3
  | 4 => TX4
  | 5 => TX5
  | 6 => TX6
  | 7 => TX7
  | 8 => TX8
  | _ => TX9
def xNF : Nat → Nat
  | 0 => 4
  | 1 => 2
  | 2 => 2
  | 3 => 4
  | 4 => 10
  | 5 => 5
  | 6 => 11
  | 7 => 2
  | 8 => 7
  | 9 => 18
  | _ => 0
def xTy : Nat → Nat → FieldType
  | 0 => tyX0
  | 1 => tyX1
  | 2 => tyX2
  | 3 => tyX3
  | 4 => tyX4
  | 5 => tyX5
  | 6 => tyX6
  | 7 => tyX7
  | 8 => tyX8
  | _ => tyX9
def xEl : Nat → Nat
  | 12 => 1
  | 13 => 0
  | 14 => 4
  | _ => 6
def xETy : Nat → FieldType
  | 10 => .int
  | 11 => .char
  | k => .object (xCN (xEl k))
def xHost : String := "LentPhrases"
def xNs : Cond → Bool
  | .methodLinkNest _ _ _ _ => true
  | .arrayOver (.object _) => true
  | _ => false
def wsG : List Cond := lw_tbl.filter goodWord
def wsN : List Cond := lw_tbl.filter xNs
def xAt (i : Nat) (w : Cond) : Bool := decide (lw_tbl[i]? = some w) && goodWord w
def xIn (w : Cond) : Prop := w ∈ wsG
theorem xAt_in {i : Nat} {w : Cond} (h : xAt i w = true) : w ∈ wsG := by
  simp only [xAt, Bool.and_eq_true, decide_eq_true_eq] at h
  exact List.mem_filter.mpr ⟨List.mem_of_getElem? h.1, h.2⟩
def xMok (q : xMI) (a b d e : Nat) : Bool :=
  xAt a (.code q.1 q.2.1 q.2.2.1 q.2.2.2.1) && xAt b (.initialized q.1.cls) && decide (q.1.cls = xCN q.2.2.2.2.1) && decide (q.1.cls ≠ "java/lang/invoke/MethodHandle" ∧ q.1.cls ≠ "java/lang/invoke/VarHandle") && plainName q.1.cls && decide ((parseMethodDescriptor q.1.desc).map (fun d => d.parameters.length) = some q.2.2.2.2.2.2) && decide (q.2.2.1 ≤ 16) &&
  (if q.2.2.2.2.2.1 = 0 then xAt d (.instanceMethod q.1) && xAt e (.selects q.1.cls q.1 q.1) && decide (q.2.2.2.2.1 < 10)
   else if q.2.2.2.2.2.1 = 1 then xAt d (.static q.1) else xAt d (.instanceMethod q.1) && decide (q.1.name = "<init>") && decide (q.2.2.2.1 = none))
def xMall (z : List (Nat × Nat × Nat × Nat)) (i : Nat) : Bool := match z with
  | [] => true
  | q :: r => xMok (xM i) q.1 q.2.1 q.2.2.1 q.2.2.2 && xMall r (i + 1)
def xRok (q : Nat × Nat × Nat × Nat) (a : Nat) : Bool := decide (q.2.2.1 < 178) && (if q.2.2.2 = 0 then xAt a (.methodLink (xCN q.1) q.2.1 (xY q.2.2.1)) else decide (lw_tbl[a]? = some (Cond.methodLinkNest (xCN q.1) q.2.1 (xY q.2.2.1) xHost)))
def xFok (q : Nat × Nat × Nat × Nat × Nat) (a : Nat) : Bool := decide (q.2.2.1 < 10) && decide (q.2.2.2.1 < xNF q.2.2.1) && xAt a (.fieldLink (xCN q.1) q.2.1 (xTC q.2.2.1 q.2.2.2.1).1 (xTC q.2.2.1 q.2.2.2.1).2.1 (xTC q.2.2.1 q.2.2.2.1).2.2.1) && decide ((xTC q.2.2.1 q.2.2.2.1).1 = xCN q.2.2.1) &&
  (match q.2.2.2.2, xTy q.2.2.1 q.2.2.2.1 with
   | 0, .int => true
   | 1, .boolean => true
   | 2, .object _ => true
   | 2, .array _ => true
   | _, _ => false)
def xOok (q : Nat × Nat) (a : Nat) : Bool := xAt a (.methodLink (xCN q.1) q.2 Lib.objectInit)
def xNok (q : Nat × Nat × Nat) (a : Nat × Nat × Nat) : Bool := decide (q.2.2 < 10) && xAt a.1 (.classLink (xCN q.1) q.2.1 (xCN q.2.2)) && xAt a.2.1 (.instantiable (xCN q.2.2) (xNF q.2.2)) && xAt a.2.2 (.initialized (xCN q.2.2))
def xAok (q : Nat × Nat × Nat) (a : Nat × Nat) : Bool := decide (12 ≤ q.2.2 ∧ q.2.2 ≤ 15) && xAt a.1 (.classLink (xCN q.1) q.2.1 (xCN (xEl q.2.2))) && decide (lw_tbl[a.2]? = some (.arrayOver (.object (xCN (xEl q.2.2)))))
def xKok (q : Nat × Nat × Int32) (a : Nat) : Bool := xAt a (.constant (xCN q.1) q.2.1 q.2.2)
def xZip {α β : Type} (f : α → β → Bool) : List α → List β → Bool
  | [], _ => true
  | a :: r, b :: s => f a b && xZip f r s
  | _ :: _, [] => false

set_option maxRecDepth 100000 in
theorem xMT_ok0 : xMall [(101, 54, 100, 0), (333, 54, 331, 332), (85, 53, 84, 0), (329, 53, 327, 328), (216, 56, 215, 0), (358, 56, 356, 357), (362, 56, 361, 2), (672, 56, 670, 671), (255, 59, 254, 0), (711, 59, 709, 710), (719, 59, 718, 10), (726, 59, 725, 11), (730, 59, 729, 12), (734, 59, 732, 733), (722, 59, 721, 0), (127, 55, 126, 0), (414, 55, 412, 413), (337, 55, 335, 336), (442, 55, 440, 441), (466, 55, 464, 465), (450, 55, 448, 449), (454, 55, 452, 453), (410, 55, 408, 409), (486, 55, 484, 485), (470, 55, 468, 469), (418, 55, 416, 417), (510, 55, 508, 509), (249, 58, 248, 0), (703, 58, 701, 702), (699, 58, 697, 698)] 0 = true := by decide +kernel
set_option maxRecDepth 100000 in
theorem xMT_ok1 : xMall [(707, 58, 706, 9), (74, 52, 73, 0), (325, 52, 323, 324), (375, 52, 373, 374), (438, 52, 436, 437), (430, 52, 428, 429), (434, 52, 432, 433), (482, 52, 480, 481), (382, 52, 381, 3), (387, 52, 386, 4), (391, 52, 390, 5), (498, 52, 496, 497), (341, 52, 339, 340), (371, 52, 369, 370), (399, 52, 397, 398), (426, 52, 424, 425), (462, 52, 460, 461), (478, 52, 476, 477), (494, 52, 492, 493), (505, 52, 504, 6), (518, 52, 516, 517), (522, 52, 521, 7), (530, 52, 528, 529), (537, 52, 535, 536), (545, 52, 543, 544), (533, 52, 532, 0), (378, 52, 377, 0), (446, 52, 444, 445), (607, 52, 605, 606), (406, 52, 404, 405)] 30 = true := by decide +kernel
set_option maxRecDepth 100000 in
theorem xMT_ok2 : xMall [(590, 52, 588, 589), (555, 52, 553, 554), (580, 52, 578, 579), (559, 52, 557, 558), (563, 52, 561, 562), (567, 52, 565, 566), (571, 52, 569, 570), (647, 52, 645, 646), (621, 52, 619, 620), (629, 52, 627, 628), (633, 52, 631, 632), (637, 52, 635, 636), (233, 57, 232, 0), (680, 57, 678, 679), (691, 57, 689, 690), (715, 57, 713, 714), (66, 51, 65, 0), (317, 51, 315, 316), (367, 51, 365, 366), (395, 51, 393, 394), (422, 51, 420, 421), (458, 51, 456, 457), (474, 51, 472, 473), (490, 51, 488, 489), (514, 51, 512, 513), (526, 51, 524, 525), (541, 51, 539, 540), (549, 51, 547, 548), (575, 51, 573, 574), (585, 51, 583, 584)] 60 = true := by decide +kernel
set_option maxRecDepth 100000 in
theorem xMT_ok3 : xMall [(595, 51, 593, 594), (601, 51, 599, 600), (611, 51, 609, 610), (615, 51, 613, 614), (625, 51, 623, 624), (641, 51, 639, 640), (652, 51, 650, 651), (656, 51, 655, 8), (660, 51, 658, 659), (664, 51, 662, 663), (668, 51, 666, 667), (676, 51, 674, 675), (687, 51, 685, 686), (695, 51, 693, 694), (745, 51, 743, 744), (321, 51, 320, 0), (354, 51, 353, 1), (347, 51, 346, 0), (344, 51, 343, 0), (402, 51, 401, 0), (750, 60, 749, 0), (813, 60, 812, 0), (1011, 60, 1010, 0), (819, 60, 818, 13), (827, 60, 826, 14), (872, 60, 871, 22), (868, 60, 867, 21), (864, 60, 863, 20), (831, 60, 830, 15), (876, 60, 875, 23)] 90 = true := by decide +kernel
set_option maxRecDepth 100000 in
theorem xMT_ok4 : xMall [(847, 60, 846, 17), (852, 60, 851, 18), (880, 60, 879, 24), (896, 60, 895, 27), (904, 60, 903, 28), (810, 60, 808, 809), (823, 60, 821, 822), (839, 60, 838, 0), (843, 60, 842, 16), (856, 60, 855, 19), (836, 60, 834, 835), (884, 60, 883, 25), (888, 60, 887, 26), (860, 60, 858, 859), (892, 60, 890, 891), (900, 60, 898, 899), (924, 60, 923, 32), (916, 60, 915, 30), (920, 60, 919, 31), (912, 60, 911, 29), (908, 60, 906, 907), (928, 60, 926, 927), (940, 60, 939, 34), (936, 60, 935, 33), (932, 60, 930, 931), (944, 60, 942, 943), (952, 60, 951, 35), (956, 60, 955, 36), (960, 60, 959, 37), (964, 60, 963, 38)] 120 = true := by decide +kernel
set_option maxRecDepth 100000 in
theorem xMT_ok5 : xMall [(1015, 60, 1014, 42), (948, 60, 946, 947), (972, 60, 971, 39), (968, 60, 966, 967), (976, 60, 974, 975), (980, 60, 978, 979), (984, 60, 982, 983), (988, 60, 986, 987), (992, 60, 990, 991), (1000, 60, 999, 40), (1004, 60, 1003, 41), (996, 60, 994, 995), (1008, 60, 1006, 1007), (1019, 60, 1017, 1018), (1023, 60, 1021, 1022), (1027, 60, 1025, 1026), (1031, 60, 1029, 1030), (1035, 60, 1033, 1034), (1039, 60, 1037, 1038), (1055, 60, 1054, 45), (1063, 60, 1062, 47), (1059, 60, 1058, 46), (1067, 60, 1066, 48), (1051, 60, 1050, 44), (1071, 60, 1070, 49), (1047, 60, 1046, 43), (1043, 60, 1041, 1042), (1080, 60, 1078, 1079)] 150 = true := by decide +kernel
set_option maxRecDepth 100000 in
theorem xRT_ok0 : xZip xRok ((xRT.drop 0).take 30) ([220, 359, 363, 712, 716, 727, 720, 723, 735, 736, 737, 738, 739, 415, 253, 700, 704, 708, 731, 83, 99, 125, 326, 330, 334, 435, 372, 388, 342, 348] : List (Nat)) = true := by decide +kernel
set_option maxRecDepth 100000 in
theorem xRT_ok1 : xZip xRok ((xRT.drop 30).take 30) ([376, 379, 384, 400, 403, 411, 427, 431, 439, 443, 463, 467, 479, 483, 495, 502, 506, 507, 519, 531, 534, 447, 451, 407, 648, 681, 72, 214, 231, 247] : List (Nat)) = true := by decide +kernel
set_option maxRecDepth 100000 in
theorem xRT_ok2 : xZip xRok ((xRT.drop 60).take 30) ([318, 338, 351, 368, 396, 423, 459, 475, 491, 515, 527, 542, 550, 552, 556, 560, 564, 568, 576, 577, 581, 586, 345, 587, 596, 597, 602, 603, 604, 616] : List (Nat)) = true := by decide +kernel
set_option maxRecDepth 100000 in
theorem xRT_ok3 : xZip xRok ((xRT.drop 90).take 30) ([618, 626, 630, 634, 642, 643, 644, 653, 322, 355, 669, 677, 688, 696, 741, 869, 873, 844, 811, 816, 824, 828, 849, 837, 840, 853, 861, 865, 877, 881] : List (Nat)) = true := by decide +kernel
set_option maxRecDepth 100000 in
theorem xRT_ok4 : xZip xRok ((xRT.drop 120).take 30) ([885, 893, 901, 921, 913, 917, 909, 937, 933, 961, 949, 953, 957, 969, 997, 1001, 1009, 1012, 1052, 1056, 1060, 1064, 1072, 1073, 1074, 1075, 1076, 1048, 1068, 1044] : List (Nat)) = true := by decide +kernel
set_option maxRecDepth 100000 in
theorem xRT_ok5 : xZip xRok ((xRT.drop 150).take 30) ([64, 748, 314, 807, 364, 820, 392, 833, 419, 857, 455, 889, 471, 897, 487, 905, 511, 925, 523, 929, 538, 941, 546, 945, 572, 965, 582, 973, 592, 977] : List (Nat)) = true := by decide +kernel
set_option maxRecDepth 100000 in
theorem xRT_ok6 : xZip xRok ((xRT.drop 180).take 30) ([598, 981, 608, 985, 612, 989, 622, 993, 638, 1005, 649, 1016, 657, 1020, 661, 1024, 665, 1028, 673, 1032, 684, 1036, 692, 1040, 742, 1077] : List (Nat)) = true := by decide +kernel
set_option maxRecDepth 100000 in
theorem xFT_ok0 : xZip xFok ((xFT.drop 0).take 30) ([103, 106, 109, 112, 87, 90, 221, 222, 257, 258, 260, 259, 129, 131, 133, 135, 137, 139, 141, 147, 143, 145, 272, 275, 273, 237, 261, 277, 279, 170] : List (Nat)) = true := by decide +kernel
set_option maxRecDepth 100000 in
theorem xFT_ok1 : xZip xFok ((xFT.drop 30).take 30) ([171, 172, 173, 175, 177, 179, 181, 183, 185, 187, 107, 104, 91, 113, 110, 88, 138, 140, 144, 142, 130, 132, 134, 136, 146, 148, 235, 236, 292, 293] : List (Nat)) = true := by decide +kernel
set_option maxRecDepth 100000 in
theorem xFT_ok2 : xZip xFok ((xFT.drop 60).take 30) ([294, 295, 296, 297, 89, 92, 105, 108, 111, 114, 174, 176, 178, 180, 182, 184, 223, 238, 298, 186, 188, 276, 278, 280, 274, 752, 753, 754, 755, 756] : List (Nat)) = true := by decide +kernel
set_option maxRecDepth 100000 in
theorem xFT_ok3 : xZip xFok ((xFT.drop 90).take 30) ([760, 769, 758, 759, 761, 757, 762, 768, 767, 763, 766, 765, 764] : List (Nat)) = true := by decide +kernel
set_option maxRecDepth 100000 in
theorem xOT_ok0 : xZip xOok ((xOT.drop 0).take 30) ([102, 86, 217, 256, 128, 250, 75, 234, 67, 751] : List (Nat)) = true := by decide +kernel
set_option maxRecDepth 100000 in
theorem xNT_ok0 : xZip xNok ((xNT.drop 0).take 30) ([(218, 71, 52), (251, 252, 59), (76, 82, 53), (78, 98, 54), (80, 124, 55), (70, 71, 52), (212, 213, 56), (229, 230, 57), (245, 246, 58), (62, 63, 51), (746, 747, 60)] : List (Nat × Nat × Nat)) = true := by decide +kernel
set_option maxRecDepth 100000 in
theorem xAT_ok0 : xZip xAok ((xAT.drop 0).take 30) ([(218, 219), (76, 77), (78, 79), (80, 81)] : List (Nat × Nat)) = true := by decide +kernel
set_option maxRecDepth 100000 in
theorem xKT_ok0 : xZip xKok ((xKT.drop 0).take 30) ([740, 349, 350, 383, 682, 683, 551, 591, 617, 814, 815, 832, 848] : List (Nat)) = true := by decide +kernel
def xJok (q : Nat × Nat) (a : Nat) : Bool := xAt a (.methodLink (xCN q.1) q.2 Lib.Math.max.name) && xAt 500 (.static Lib.Math.max.name) && xAt 61 (.initialized "java/lang/Math") && xAt 501 (.code Lib.Math.max.name Lib.Math.max.code 2 (some .int))
set_option maxRecDepth 100000 in
theorem xJT_ok0 : xZip xJok ((xJT.drop 0).take 30) ([499] : List (Nat)) = true := by decide +kernel
def xLL : List (Nat × Nat) := (List.range 10).flatMap fun c => (List.range (xNF c)).map fun k => (c, k)
set_option maxRecDepth 100000 in
theorem xLay_ok : xZip (fun (q : Nat × Nat) (a : Nat) => xAt a (u_lay (xCN q.1) (xTC q.1) q.2)) xLL ([115, 117, 119, 121, 93, 95, 224, 226, 262, 264, 266, 268, 149, 151, 153, 155, 157, 159, 161, 163, 165, 167, 281, 283, 285, 287, 289, 189, 191, 193, 195, 197, 199, 201, 203, 205, 207, 209, 239, 241, 299, 301, 303, 305, 307, 309, 311, 770, 772, 774, 776, 778, 780, 782, 784, 786, 788, 790, 792, 794, 796, 798, 800, 802, 804] : List Nat) = true := by decide +kernel
set_option maxRecDepth 100000 in
theorem xIns_ok : xZip (fun (q : Nat) (a : Nat) => xAt a (.instantiable (xCN q) (xNF q))) (List.range 10) ([98, 82, 213, 252, 124, 246, 71, 230, 63, 747] : List Nat) = true := by decide +kernel
set_option maxRecDepth 100000 in
theorem xObj_ok : (xAt 68 (.instanceMethod Lib.objectInit) && xAt 69 (.code Lib.objectInit ⟨#[0xb1]⟩ 1 none) && xAt 271 (.arrayClass .int) && xAt 244 (.arrayClass .char)) = true := by decide +kernel
theorem xCls (c : Nat) (h : c < 10) : vwCl[c]? = some (xCN c, xTC c, xNF c) := by
  match c, h with
  | 0, _ => rfl
  | 1, _ => rfl
  | 2, _ => rfl
  | 3, _ => rfl
  | 4, _ => rfl
  | 5, _ => rfl
  | 6, _ => rfl
  | 7, _ => rfl
  | 8, _ => rfl
  | 9, _ => rfl
theorem xNm (c : Nat) (h : c < 10) : ∀ a, a < xNF c → ∀ b, b < xNF c → a ≠ b → (xTC c a).2.1 ≠ (xTC c b).2.1 := by
  match c, h with
  | 0, _ => exact nmX0
  | 1, _ => exact nmX1
  | 2, _ => exact nmX2
  | 3, _ => exact nmX3
  | 4, _ => exact nmX4
  | 5, _ => exact nmX5
  | 6, _ => exact nmX6
  | 7, _ => exact nmX7
  | 8, _ => exact nmX8
  | 9, _ => exact nmX9
theorem xTyok (c : Nat) (h : c < 10) : ∀ k, k < xNF c → parseFieldDescriptor (xTC c k).2.2.1 = some (xTy c k) := by
  match c, h with
  | 0, _ => exact tyX0_ok
  | 1, _ => exact tyX1_ok
  | 2, _ => exact tyX2_ok
  | 3, _ => exact tyX3_ok
  | 4, _ => exact tyX4_ok
  | 5, _ => exact tyX5_ok
  | 6, _ => exact tyX6_ok
  | 7, _ => exact tyX7_ok
  | 8, _ => exact tyX8_ok
  | 9, _ => exact tyX9_ok
