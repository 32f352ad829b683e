section
-- ===== PART A: goes FIRST, ahead of the names: the tables' words, and 'selects' of the private methods out of them =====
/-- a private method of a class that the tables say can be made, by its rows of tables_1 -/
def lw_okq (q : MethodName × Nat) : Prop := (q.1.cls ≠ "java/lang/invoke/MethodHandle" ∧ q.1.cls ≠ "java/lang/invoke/VarHandle") ∧ Cond.instantiable q.1.cls q.2 ∈ tables_1 ∧ Cond.privateMethod q.1 ∈ tables_1 ∧ Cond.instanceMethod q.1 ∈ tables_1
theorem lw_p0 : lw_okq (⟨"LentPhrases", "rehearsal", "()LLentPhrases$State;"⟩, 7) := ⟨⟨by decide +kernel, by decide +kernel⟩, List.mem_of_getElem? (i := 13) (by decide +kernel), List.mem_of_getElem? (i := 269) (by decide +kernel), List.mem_of_getElem? (i := 270) (by decide +kernel)⟩
theorem lw_p1 : lw_okq (⟨"LentPhrases", "settle", "(I)I"⟩, 7) := ⟨⟨by decide +kernel, by decide +kernel⟩, List.mem_of_getElem? (i := 13) (by decide +kernel), List.mem_of_getElem? (i := 302) (by decide +kernel), List.mem_of_getElem? (i := 303) (by decide +kernel)⟩
theorem lw_p2 : lw_okq (⟨"LentPhrases$History", "dropOldest", "()V"⟩, 2) := ⟨⟨by decide +kernel, by decide +kernel⟩, List.mem_of_getElem? (i := 163) (by decide +kernel), List.mem_of_getElem? (i := 310) (by decide +kernel), List.mem_of_getElem? (i := 311) (by decide +kernel)⟩
theorem lw_p3 : lw_okq (⟨"LentPhrases$State", "purseOf", "(I)I"⟩, 11) := ⟨⟨by decide +kernel, by decide +kernel⟩, List.mem_of_getElem? (i := 21) (by decide +kernel), List.mem_of_getElem? (i := 330) (by decide +kernel), List.mem_of_getElem? (i := 331) (by decide +kernel)⟩
theorem lw_p4 : lw_okq (⟨"LentPhrases$State", "pay", "(III)V"⟩, 11) := ⟨⟨by decide +kernel, by decide +kernel⟩, List.mem_of_getElem? (i := 21) (by decide +kernel), List.mem_of_getElem? (i := 335) (by decide +kernel), List.mem_of_getElem? (i := 336) (by decide +kernel)⟩
theorem lw_p5 : lw_okq (⟨"LentPhrases$State", "receive", "(II)V"⟩, 11) := ⟨⟨by decide +kernel, by decide +kernel⟩, List.mem_of_getElem? (i := 21) (by decide +kernel), List.mem_of_getElem? (i := 339) (by decide +kernel), List.mem_of_getElem? (i := 340) (by decide +kernel)⟩
theorem lw_p6 : lw_okq (⟨"LentPhrases$State", "clearOut", "(LLentPhrases$Phrase;I)V"⟩, 11) := ⟨⟨by decide +kernel, by decide +kernel⟩, List.mem_of_getElem? (i := 21) (by decide +kernel), List.mem_of_getElem? (i := 453) (by decide +kernel), List.mem_of_getElem? (i := 454) (by decide +kernel)⟩
theorem lw_p7 : lw_okq (⟨"LentPhrases$State", "endLoansAtHome", "()I"⟩, 11) := ⟨⟨by decide +kernel, by decide +kernel⟩, List.mem_of_getElem? (i := 21) (by decide +kernel), List.mem_of_getElem? (i := 470) (by decide +kernel), List.mem_of_getElem? (i := 471) (by decide +kernel)⟩
theorem lw_p8 : lw_okq (⟨"LentPhrases", "tellsWithout", "(I)I"⟩, 7) := ⟨⟨by decide +kernel, by decide +kernel⟩, List.mem_of_getElem? (i := 13) (by decide +kernel), List.mem_of_getElem? (i := 604) (by decide +kernel), List.mem_of_getElem? (i := 605) (by decide +kernel)⟩
theorem lw_p9 : lw_okq (⟨"LentPhrases$Reading", "rehearseOrder", "(LLentPhrases$Text;ILLentPhrases$State;)V"⟩, 5) := ⟨⟨by decide +kernel, by decide +kernel⟩, List.mem_of_getElem? (i := 196) (by decide +kernel), List.mem_of_getElem? (i := 655) (by decide +kernel), List.mem_of_getElem? (i := 656) (by decide +kernel)⟩
theorem lw_p10 : lw_okq (⟨"LentPhrases$Order", "readNumbers", "(LLentPhrases$Text;)Z"⟩, 4) := ⟨⟨by decide +kernel, by decide +kernel⟩, List.mem_of_getElem? (i := 202) (by decide +kernel), List.mem_of_getElem? (i := 667) (by decide +kernel), List.mem_of_getElem? (i := 668) (by decide +kernel)⟩
theorem lw_p11 : lw_okq (⟨"LentPhrases$Order", "readNumber", "(LLentPhrases$Text;)I"⟩, 4) := ⟨⟨by decide +kernel, by decide +kernel⟩, List.mem_of_getElem? (i := 202) (by decide +kernel), List.mem_of_getElem? (i := 674) (by decide +kernel), List.mem_of_getElem? (i := 675) (by decide +kernel)⟩
theorem lw_p12 : lw_okq (⟨"LentPhrases$Order", "hasItsNumbers", "()Z"⟩, 4) := ⟨⟨by decide +kernel, by decide +kernel⟩, List.mem_of_getElem? (i := 202) (by decide +kernel), List.mem_of_getElem? (i := 678) (by decide +kernel), List.mem_of_getElem? (i := 679) (by decide +kernel)⟩
theorem lw_p13 : lw_okq (⟨"LentPhrasesModel", "changes", "()V"⟩, 18) := ⟨⟨by decide +kernel, by decide +kernel⟩, List.mem_of_getElem? (i := 697) (by decide +kernel), List.mem_of_getElem? (i := 767) (by decide +kernel), List.mem_of_getElem? (i := 768) (by decide +kernel)⟩
theorem lw_p14 : lw_okq (⟨"LentPhrasesModel", "isClient", "(I)Z"⟩, 18) := ⟨⟨by decide +kernel, by decide +kernel⟩, List.mem_of_getElem? (i := 697) (by decide +kernel), List.mem_of_getElem? (i := 775) (by decide +kernel), List.mem_of_getElem? (i := 776) (by decide +kernel)⟩
theorem lw_p15 : lw_okq (⟨"LentPhrasesModel", "ofClient", "(II)I"⟩, 18) := ⟨⟨by decide +kernel, by decide +kernel⟩, List.mem_of_getElem? (i := 697) (by decide +kernel), List.mem_of_getElem? (i := 779) (by decide +kernel), List.mem_of_getElem? (i := 780) (by decide +kernel)⟩
def lw_privs_1 : List (MethodName × Nat) := [(⟨"LentPhrases", "rehearsal", "()LLentPhrases$State;"⟩, 7), (⟨"LentPhrases", "settle", "(I)I"⟩, 7), (⟨"LentPhrases$History", "dropOldest", "()V"⟩, 2), (⟨"LentPhrases$State", "purseOf", "(I)I"⟩, 11), (⟨"LentPhrases$State", "pay", "(III)V"⟩, 11), (⟨"LentPhrases$State", "receive", "(II)V"⟩, 11), (⟨"LentPhrases$State", "clearOut", "(LLentPhrases$Phrase;I)V"⟩, 11), (⟨"LentPhrases$State", "endLoansAtHome", "()I"⟩, 11), (⟨"LentPhrases", "tellsWithout", "(I)I"⟩, 7), (⟨"LentPhrases$Reading", "rehearseOrder", "(LLentPhrases$Text;ILLentPhrases$State;)V"⟩, 5), (⟨"LentPhrases$Order", "readNumbers", "(LLentPhrases$Text;)Z"⟩, 4), (⟨"LentPhrases$Order", "readNumber", "(LLentPhrases$Text;)I"⟩, 4), (⟨"LentPhrases$Order", "hasItsNumbers", "()Z"⟩, 4), (⟨"LentPhrasesModel", "changes", "()V"⟩, 18), (⟨"LentPhrasesModel", "isClient", "(I)Z"⟩, 18), (⟨"LentPhrasesModel", "ofClient", "(II)I"⟩, 18)]
theorem lw_r1 : ∀ q ∈ lw_privs_1, lw_okq q := List.forall_mem_cons.mpr ⟨lw_p0, List.forall_mem_cons.mpr ⟨lw_p1, List.forall_mem_cons.mpr ⟨lw_p2, List.forall_mem_cons.mpr ⟨lw_p3, List.forall_mem_cons.mpr ⟨lw_p4, List.forall_mem_cons.mpr ⟨lw_p5, List.forall_mem_cons.mpr ⟨lw_p6, List.forall_mem_cons.mpr ⟨lw_p7, List.forall_mem_cons.mpr ⟨lw_p8, List.forall_mem_cons.mpr ⟨lw_p9, List.forall_mem_cons.mpr ⟨lw_p10, List.forall_mem_cons.mpr ⟨lw_p11, List.forall_mem_cons.mpr ⟨lw_p12, List.forall_mem_cons.mpr ⟨lw_p13, List.forall_mem_cons.mpr ⟨lw_p14, List.forall_mem_cons.mpr ⟨lw_p15, fun _ h => absurd h List.not_mem_nil⟩⟩⟩⟩⟩⟩⟩⟩⟩⟩⟩⟩⟩⟩⟩⟩
theorem lw_p16 : lw_okq (⟨"LentPhrasesModel", "found", "(III)I"⟩, 18) := ⟨⟨by decide +kernel, by decide +kernel⟩, List.mem_of_getElem? (i := 697) (by decide +kernel), List.mem_of_getElem? (i := 791) (by decide +kernel), List.mem_of_getElem? (i := 792) (by decide +kernel)⟩
theorem lw_p17 : lw_okq (⟨"LentPhrasesModel", "of", "(II)I"⟩, 18) := ⟨⟨by decide +kernel, by decide +kernel⟩, List.mem_of_getElem? (i := 697) (by decide +kernel), List.mem_of_getElem? (i := 795) (by decide +kernel), List.mem_of_getElem? (i := 796) (by decide +kernel)⟩
theorem lw_p18 : lw_okq (⟨"LentPhrasesModel", "sets", "(III)V"⟩, 18) := ⟨⟨by decide +kernel, by decide +kernel⟩, List.mem_of_getElem? (i := 697) (by decide +kernel), List.mem_of_getElem? (i := 800) (by decide +kernel), List.mem_of_getElem? (i := 801) (by decide +kernel)⟩
theorem lw_p19 : lw_okq (⟨"LentPhrasesModel", "goesFree", "(I)V"⟩, 18) := ⟨⟨by decide +kernel, by decide +kernel⟩, List.mem_of_getElem? (i := 697) (by decide +kernel), List.mem_of_getElem? (i := 804) (by decide +kernel), List.mem_of_getElem? (i := 805) (by decide +kernel)⟩
theorem lw_p20 : lw_okq (⟨"LentPhrasesModel", "isPhrase", "(I)Z"⟩, 18) := ⟨⟨by decide +kernel, by decide +kernel⟩, List.mem_of_getElem? (i := 697) (by decide +kernel), List.mem_of_getElem? (i := 812) (by decide +kernel), List.mem_of_getElem? (i := 813) (by decide +kernel)⟩
theorem lw_p21 : lw_okq (⟨"LentPhrasesModel", "isPage", "(II)Z"⟩, 18) := ⟨⟨by decide +kernel, by decide +kernel⟩, List.mem_of_getElem? (i := 697) (by decide +kernel), List.mem_of_getElem? (i := 816) (by decide +kernel), List.mem_of_getElem? (i := 817) (by decide +kernel)⟩
theorem lw_p22 : lw_okq (⟨"LentPhrasesModel", "isChapter", "(I)Z"⟩, 18) := ⟨⟨by decide +kernel, by decide +kernel⟩, List.mem_of_getElem? (i := 697) (by decide +kernel), List.mem_of_getElem? (i := 820) (by decide +kernel), List.mem_of_getElem? (i := 821) (by decide +kernel)⟩
theorem lw_p23 : lw_okq (⟨"LentPhrasesModel", "ofChapter", "(II)I"⟩, 18) := ⟨⟨by decide +kernel, by decide +kernel⟩, List.mem_of_getElem? (i := 697) (by decide +kernel), List.mem_of_getElem? (i := 824) (by decide +kernel), List.mem_of_getElem? (i := 825) (by decide +kernel)⟩
theorem lw_p24 : lw_okq (⟨"LentPhrasesModel", "isFree", "(I)Z"⟩, 18) := ⟨⟨by decide +kernel, by decide +kernel⟩, List.mem_of_getElem? (i := 697) (by decide +kernel), List.mem_of_getElem? (i := 828) (by decide +kernel), List.mem_of_getElem? (i := 829) (by decide +kernel)⟩
theorem lw_p25 : lw_okq (⟨"LentPhrasesModel", "left", "(II)I"⟩, 18) := ⟨⟨by decide +kernel, by decide +kernel⟩, List.mem_of_getElem? (i := 697) (by decide +kernel), List.mem_of_getElem? (i := 832) (by decide +kernel), List.mem_of_getElem? (i := 833) (by decide +kernel)⟩
theorem lw_p26 : lw_okq (⟨"LentPhrasesModel", "puts", "(III)V"⟩, 18) := ⟨⟨by decide +kernel, by decide +kernel⟩, List.mem_of_getElem? (i := 697) (by decide +kernel), List.mem_of_getElem? (i := 836) (by decide +kernel), List.mem_of_getElem? (i := 837) (by decide +kernel)⟩
theorem lw_p27 : lw_okq (⟨"LentPhrasesModel", "isLent", "(I)Z"⟩, 18) := ⟨⟨by decide +kernel, by decide +kernel⟩, List.mem_of_getElem? (i := 697) (by decide +kernel), List.mem_of_getElem? (i := 844) (by decide +kernel), List.mem_of_getElem? (i := 845) (by decide +kernel)⟩
theorem lw_p28 : lw_okq (⟨"LentPhrasesModel", "bookOf", "(I)I"⟩, 18) := ⟨⟨by decide +kernel, by decide +kernel⟩, List.mem_of_getElem? (i := 697) (by decide +kernel), List.mem_of_getElem? (i := 852) (by decide +kernel), List.mem_of_getElem? (i := 853) (by decide +kernel)⟩
theorem lw_p29 : lw_okq (⟨"LentPhrasesModel", "buysBack", "(I)I"⟩, 18) := ⟨⟨by decide +kernel, by decide +kernel⟩, List.mem_of_getElem? (i := 697) (by decide +kernel), List.mem_of_getElem? (i := 860) (by decide +kernel), List.mem_of_getElem? (i := 861) (by decide +kernel)⟩
theorem lw_p30 : lw_okq (⟨"LentPhrasesModel", "worth", "(I)I"⟩, 18) := ⟨⟨by decide +kernel, by decide +kernel⟩, List.mem_of_getElem? (i := 697) (by decide +kernel), List.mem_of_getElem? (i := 864) (by decide +kernel), List.mem_of_getElem? (i := 865) (by decide +kernel)⟩
theorem lw_p31 : lw_okq (⟨"LentPhrasesModel", "leaves", "(I)V"⟩, 18) := ⟨⟨by decide +kernel, by decide +kernel⟩, List.mem_of_getElem? (i := 697) (by decide +kernel), List.mem_of_getElem? (i := 868) (by decide +kernel), List.mem_of_getElem? (i := 869) (by decide +kernel)⟩
def lw_privs_2 : List (MethodName × Nat) := [(⟨"LentPhrasesModel", "found", "(III)I"⟩, 18), (⟨"LentPhrasesModel", "of", "(II)I"⟩, 18), (⟨"LentPhrasesModel", "sets", "(III)V"⟩, 18), (⟨"LentPhrasesModel", "goesFree", "(I)V"⟩, 18), (⟨"LentPhrasesModel", "isPhrase", "(I)Z"⟩, 18), (⟨"LentPhrasesModel", "isPage", "(II)Z"⟩, 18), (⟨"LentPhrasesModel", "isChapter", "(I)Z"⟩, 18), (⟨"LentPhrasesModel", "ofChapter", "(II)I"⟩, 18), (⟨"LentPhrasesModel", "isFree", "(I)Z"⟩, 18), (⟨"LentPhrasesModel", "left", "(II)I"⟩, 18), (⟨"LentPhrasesModel", "puts", "(III)V"⟩, 18), (⟨"LentPhrasesModel", "isLent", "(I)Z"⟩, 18), (⟨"LentPhrasesModel", "bookOf", "(I)I"⟩, 18), (⟨"LentPhrasesModel", "buysBack", "(I)I"⟩, 18), (⟨"LentPhrasesModel", "worth", "(I)I"⟩, 18), (⟨"LentPhrasesModel", "leaves", "(I)V"⟩, 18)]
theorem lw_r2 : ∀ q ∈ lw_privs_2, lw_okq q := List.forall_mem_cons.mpr ⟨lw_p16, List.forall_mem_cons.mpr ⟨lw_p17, List.forall_mem_cons.mpr ⟨lw_p18, List.forall_mem_cons.mpr ⟨lw_p19, List.forall_mem_cons.mpr ⟨lw_p20, List.forall_mem_cons.mpr ⟨lw_p21, List.forall_mem_cons.mpr ⟨lw_p22, List.forall_mem_cons.mpr ⟨lw_p23, List.forall_mem_cons.mpr ⟨lw_p24, List.forall_mem_cons.mpr ⟨lw_p25, List.forall_mem_cons.mpr ⟨lw_p26, List.forall_mem_cons.mpr ⟨lw_p27, List.forall_mem_cons.mpr ⟨lw_p28, List.forall_mem_cons.mpr ⟨lw_p29, List.forall_mem_cons.mpr ⟨lw_p30, List.forall_mem_cons.mpr ⟨lw_p31, fun _ h => absurd h List.not_mem_nil⟩⟩⟩⟩⟩⟩⟩⟩⟩⟩⟩⟩⟩⟩⟩⟩
theorem lw_p32 : lw_okq (⟨"LentPhrasesModel", "goesHome", "(I)V"⟩, 18) := ⟨⟨by decide +kernel, by decide +kernel⟩, List.mem_of_getElem? (i := 697) (by decide +kernel), List.mem_of_getElem? (i := 872) (by decide +kernel), List.mem_of_getElem? (i := 873) (by decide +kernel)⟩
theorem lw_p33 : lw_okq (⟨"LentPhrasesModel", "passes", "(I)I"⟩, 18) := ⟨⟨by decide +kernel, by decide +kernel⟩, List.mem_of_getElem? (i := 697) (by decide +kernel), List.mem_of_getElem? (i := 884) (by decide +kernel), List.mem_of_getElem? (i := 885) (by decide +kernel)⟩
theorem lw_p34 : lw_okq (⟨"LentPhrasesModel", "begins", "()I"⟩, 18) := ⟨⟨by decide +kernel, by decide +kernel⟩, List.mem_of_getElem? (i := 697) (by decide +kernel), List.mem_of_getElem? (i := 888) (by decide +kernel), List.mem_of_getElem? (i := 889) (by decide +kernel)⟩
theorem lw_p35 : lw_okq (⟨"LentPhrasesModel", "chaptersOf", "(I)I"⟩, 18) := ⟨⟨by decide +kernel, by decide +kernel⟩, List.mem_of_getElem? (i := 697) (by decide +kernel), List.mem_of_getElem? (i := 900) (by decide +kernel), List.mem_of_getElem? (i := 901) (by decide +kernel)⟩
theorem lw_p36 : lw_okq (⟨"LentPhrasesModel", "inBook", "(IZ)I"⟩, 18) := ⟨⟨by decide +kernel, by decide +kernel⟩, List.mem_of_getElem? (i := 697) (by decide +kernel), List.mem_of_getElem? (i := 904) (by decide +kernel), List.mem_of_getElem? (i := 905) (by decide +kernel)⟩
theorem lw_p37 : lw_okq (⟨"LentPhrasesModel", "lentFrom", "(I)I"⟩, 18) := ⟨⟨by decide +kernel, by decide +kernel⟩, List.mem_of_getElem? (i := 697) (by decide +kernel), List.mem_of_getElem? (i := 908) (by decide +kernel), List.mem_of_getElem? (i := 909) (by decide +kernel)⟩
theorem lw_p38 : lw_okq (⟨"LentPhrasesModel", "tellsIn", "(II)I"⟩, 18) := ⟨⟨by decide +kernel, by decide +kernel⟩, List.mem_of_getElem? (i := 697) (by decide +kernel), List.mem_of_getElem? (i := 912) (by decide +kernel), List.mem_of_getElem? (i := 913) (by decide +kernel)⟩
theorem lw_p39 : lw_okq (⟨"LentPhrasesModel", "onChapter", "(I)I"⟩, 18) := ⟨⟨by decide +kernel, by decide +kernel⟩, List.mem_of_getElem? (i := 697) (by decide +kernel), List.mem_of_getElem? (i := 920) (by decide +kernel), List.mem_of_getElem? (i := 921) (by decide +kernel)⟩
theorem lw_p40 : lw_okq (⟨"LentPhrasesModel", "ofPhrases", "(Z)I"⟩, 18) := ⟨⟨by decide +kernel, by decide +kernel⟩, List.mem_of_getElem? (i := 697) (by decide +kernel), List.mem_of_getElem? (i := 948) (by decide +kernel), List.mem_of_getElem? (i := 949) (by decide +kernel)⟩
theorem lw_p41 : lw_okq (⟨"LentPhrasesModel", "firstWords", "()I"⟩, 18) := ⟨⟨by decide +kernel, by decide +kernel⟩, List.mem_of_getElem? (i := 697) (by decide +kernel), List.mem_of_getElem? (i := 952) (by decide +kernel), List.mem_of_getElem? (i := 953) (by decide +kernel)⟩
theorem lw_p42 : lw_okq (⟨"LentPhrasesModel", "allTells", "()I"⟩, 18) := ⟨⟨by decide +kernel, by decide +kernel⟩, List.mem_of_getElem? (i := 697) (by decide +kernel), List.mem_of_getElem? (i := 963) (by decide +kernel), List.mem_of_getElem? (i := 964) (by decide +kernel)⟩
theorem lw_p43 : lw_okq (⟨"LentPhrasesModel", "plays", "()Z"⟩, 18) := ⟨⟨by decide +kernel, by decide +kernel⟩, List.mem_of_getElem? (i := 697) (by decide +kernel), List.mem_of_getElem? (i := 995) (by decide +kernel), List.mem_of_getElem? (i := 996) (by decide +kernel)⟩
theorem lw_p44 : lw_okq (⟨"LentPhrasesModel", "reads", "()Z"⟩, 18) := ⟨⟨by decide +kernel, by decide +kernel⟩, List.mem_of_getElem? (i := 697) (by decide +kernel), List.mem_of_getElem? (i := 999) (by decide +kernel), List.mem_of_getElem? (i := 1000) (by decide +kernel)⟩
theorem lw_p45 : lw_okq (⟨"LentPhrasesModel", "isAt", "(II)Z"⟩, 18) := ⟨⟨by decide +kernel, by decide +kernel⟩, List.mem_of_getElem? (i := 697) (by decide +kernel), List.mem_of_getElem? (i := 1003) (by decide +kernel), List.mem_of_getElem? (i := 1004) (by decide +kernel)⟩
theorem lw_p46 : lw_okq (⟨"LentPhrasesModel", "numbered", "()Z"⟩, 18) := ⟨⟨by decide +kernel, by decide +kernel⟩, List.mem_of_getElem? (i := 697) (by decide +kernel), List.mem_of_getElem? (i := 1007) (by decide +kernel), List.mem_of_getElem? (i := 1008) (by decide +kernel)⟩
theorem lw_p47 : lw_okq (⟨"LentPhrasesModel", "sign", "(I)Z"⟩, 18) := ⟨⟨by decide +kernel, by decide +kernel⟩, List.mem_of_getElem? (i := 697) (by decide +kernel), List.mem_of_getElem? (i := 1011) (by decide +kernel), List.mem_of_getElem? (i := 1012) (by decide +kernel)⟩
def lw_privs_3 : List (MethodName × Nat) := [(⟨"LentPhrasesModel", "goesHome", "(I)V"⟩, 18), (⟨"LentPhrasesModel", "passes", "(I)I"⟩, 18), (⟨"LentPhrasesModel", "begins", "()I"⟩, 18), (⟨"LentPhrasesModel", "chaptersOf", "(I)I"⟩, 18), (⟨"LentPhrasesModel", "inBook", "(IZ)I"⟩, 18), (⟨"LentPhrasesModel", "lentFrom", "(I)I"⟩, 18), (⟨"LentPhrasesModel", "tellsIn", "(II)I"⟩, 18), (⟨"LentPhrasesModel", "onChapter", "(I)I"⟩, 18), (⟨"LentPhrasesModel", "ofPhrases", "(Z)I"⟩, 18), (⟨"LentPhrasesModel", "firstWords", "()I"⟩, 18), (⟨"LentPhrasesModel", "allTells", "()I"⟩, 18), (⟨"LentPhrasesModel", "plays", "()Z"⟩, 18), (⟨"LentPhrasesModel", "reads", "()Z"⟩, 18), (⟨"LentPhrasesModel", "isAt", "(II)Z"⟩, 18), (⟨"LentPhrasesModel", "numbered", "()Z"⟩, 18), (⟨"LentPhrasesModel", "sign", "(I)Z"⟩, 18)]
theorem lw_r3 : ∀ q ∈ lw_privs_3, lw_okq q := List.forall_mem_cons.mpr ⟨lw_p32, List.forall_mem_cons.mpr ⟨lw_p33, List.forall_mem_cons.mpr ⟨lw_p34, List.forall_mem_cons.mpr ⟨lw_p35, List.forall_mem_cons.mpr ⟨lw_p36, List.forall_mem_cons.mpr ⟨lw_p37, List.forall_mem_cons.mpr ⟨lw_p38, List.forall_mem_cons.mpr ⟨lw_p39, List.forall_mem_cons.mpr ⟨lw_p40, List.forall_mem_cons.mpr ⟨lw_p41, List.forall_mem_cons.mpr ⟨lw_p42, List.forall_mem_cons.mpr ⟨lw_p43, List.forall_mem_cons.mpr ⟨lw_p44, List.forall_mem_cons.mpr ⟨lw_p45, List.forall_mem_cons.mpr ⟨lw_p46, List.forall_mem_cons.mpr ⟨lw_p47, fun _ h => absurd h List.not_mem_nil⟩⟩⟩⟩⟩⟩⟩⟩⟩⟩⟩⟩⟩⟩⟩⟩
theorem lw_p48 : lw_okq (⟨"LentPhrasesModel", "areMany", "()Z"⟩, 18) := ⟨⟨by decide +kernel, by decide +kernel⟩, List.mem_of_getElem? (i := 697) (by decide +kernel), List.mem_of_getElem? (i := 1015) (by decide +kernel), List.mem_of_getElem? (i := 1016) (by decide +kernel)⟩
theorem lw_p49 : lw_okq (⟨"LentPhrasesModel", "calls", "()I"⟩, 18) := ⟨⟨by decide +kernel, by decide +kernel⟩, List.mem_of_getElem? (i := 697) (by decide +kernel), List.mem_of_getElem? (i := 1019) (by decide +kernel), List.mem_of_getElem? (i := 1020) (by decide +kernel)⟩
def lw_privs_4 : List (MethodName × Nat) := [(⟨"LentPhrasesModel", "areMany", "()Z"⟩, 18), (⟨"LentPhrasesModel", "calls", "()I"⟩, 18)]
theorem lw_r4 : ∀ q ∈ lw_privs_4, lw_okq q := List.forall_mem_cons.mpr ⟨lw_p48, List.forall_mem_cons.mpr ⟨lw_p49, fun _ h => absurd h List.not_mem_nil⟩⟩
def lw_privs : List (MethodName × Nat) := lw_privs_1 ++ (lw_privs_2 ++ (lw_privs_3 ++ (lw_privs_4)))
def lw_tbl : List Cond := k2_sels lw_privs ++ tables_1
theorem lw_privs_ok : ∀ q ∈ lw_privs, lw_okq q := by
  show ∀ q ∈ lw_privs_1 ++ (lw_privs_2 ++ (lw_privs_3 ++ (lw_privs_4))), lw_okq q
  exact List.forall_mem_append.mpr ⟨lw_r1, List.forall_mem_append.mpr ⟨lw_r2, List.forall_mem_append.mpr ⟨lw_r3, lw_r4⟩⟩⟩
end
section
def RX0 : String := "LentPhrases$Chapter"
def TX0 : u_T := fun k => match k with
  | 0 => ("LentPhrases$Chapter", "client", "I", false)
  | 1 => ("LentPhrases$Chapter", "pages", "I", false)
  | 2 => ("LentPhrases$Chapter", "price", "I", false)
  | _ => ("LentPhrases$Chapter", "bought", "I", false)
def tyX0 : Nat → FieldType := fun k => match k with
  | 0 => .int
  | 1 => .int
  | 2 => .int
  | _ => .int
theorem nmX0 : ∀ a, a < 4 → ∀ b, b < 4 → a ≠ b → (TX0 a).2.1 ≠ (TX0 b).2.1 := by decide +kernel
theorem tyX0_ok : ∀ k, k < 4 → parseFieldDescriptor (TX0 k).2.2.1 = some (tyX0 k) := by decide +kernel
abbrev cX0_init : ByteArray := prog_2_method_1_code
def yX0_init : MethodName := ⟨RX0, "<init>", "()V"⟩
abbrev cX0_copyFrom : ByteArray := prog_2_method_2_code
def yX0_copyFrom : MethodName := ⟨RX0, "copyFrom", "(LLentPhrases$Chapter;)V"⟩
def RX1 : String := "LentPhrases$Client"
def TX1 : u_T := fun k => match k with
  | 0 => ("LentPhrases$Client", "voice", "I", false)
  | _ => ("LentPhrases$Client", "purse", "I", false)
def tyX1 : Nat → FieldType := fun k => match k with
  | 0 => .int
  | _ => .int
theorem nmX1 : ∀ a, a < 2 → ∀ b, b < 2 → a ≠ b → (TX1 a).2.1 ≠ (TX1 b).2.1 := by decide +kernel
theorem tyX1_ok : ∀ k, k < 2 → parseFieldDescriptor (TX1 k).2.2.1 = some (tyX1 k) := by decide +kernel
abbrev cX1_init : ByteArray := prog_3_method_1_code
def yX1_init : MethodName := ⟨RX1, "<init>", "()V"⟩
abbrev cX1_copyFrom : ByteArray := prog_3_method_2_code
def yX1_copyFrom : MethodName := ⟨RX1, "copyFrom", "(LLentPhrases$Client;)V"⟩
def RX2 : String := "LentPhrases$History"
def TX2 : u_T := fun k => match k with
  | 0 => ("LentPhrases$History", "states", "[LLentPhrases$State;", true)
  | _ => ("LentPhrases$History", "size", "I", false)
def tyX2 : Nat → FieldType := fun k => match k with
  | 0 => .array (.object "LentPhrases$State")
  | _ => .int
theorem nmX2 : ∀ a, a < 2 → ∀ b, b < 2 → a ≠ b → (TX2 a).2.1 ≠ (TX2 b).2.1 := by decide +kernel
theorem tyX2_ok : ∀ k, k < 2 → parseFieldDescriptor (TX2 k).2.2.1 = some (tyX2 k) := by decide +kernel
abbrev cX2_init : ByteArray := prog_4_method_1_code
def yX2_init : MethodName := ⟨RX2, "<init>", "()V"⟩
abbrev cX2_push : ByteArray := prog_4_method_2_code
def yX2_push : MethodName := ⟨RX2, "push", "(LLentPhrases$State;)V"⟩
abbrev cX2_dropOldest : ByteArray := prog_4_method_3_code
def yX2_dropOldest : MethodName := ⟨RX2, "dropOldest", "()V"⟩
abbrev cX2_popInto : ByteArray := prog_4_method_4_code
def yX2_popInto : MethodName := ⟨RX2, "popInto", "(LLentPhrases$State;)Z"⟩
def RX3 : String := "LentPhrases$Order"
def TX3 : u_T := fun k => match k with
  | 0 => ("LentPhrases$Order", "numbers", "[I", true)
  | 1 => ("LentPhrases$Order", "letter", "I", false)
  | 2 => ("LentPhrases$Order", "amount", "I", false)
  | _ => ("LentPhrases$Order", "end", "I", false)
def tyX3 : Nat → FieldType := fun k => match k with
  | 0 => .array .int
  | 1 => .int
  | 2 => .int
  | _ => .int
theorem nmX3 : ∀ a, a < 4 → ∀ b, b < 4 → a ≠ b → (TX3 a).2.1 ≠ (TX3 b).2.1 := by decide +kernel
theorem tyX3_ok : ∀ k, k < 4 → parseFieldDescriptor (TX3 k).2.2.1 = some (tyX3 k) := by decide +kernel
abbrev cX3_init : ByteArray := prog_5_method_1_code
def yX3_init : MethodName := ⟨RX3, "<init>", "()V"⟩
abbrev cX3_read : ByteArray := prog_5_method_2_code
def yX3_read : MethodName := ⟨RX3, "read", "(LLentPhrases$Text;I)Z"⟩
abbrev cX3_readNumbers : ByteArray := prog_5_method_3_code
def yX3_readNumbers : MethodName := ⟨RX3, "readNumbers", "(LLentPhrases$Text;)Z"⟩
abbrev cX3_readNumber : ByteArray := prog_5_method_4_code
def yX3_readNumber : MethodName := ⟨RX3, "readNumber", "(LLentPhrases$Text;)I"⟩
abbrev cX3_hasItsNumbers : ByteArray := prog_5_method_5_code
def yX3_hasItsNumbers : MethodName := ⟨RX3, "hasItsNumbers", "()Z"⟩
abbrev cX3_carryOut : ByteArray := prog_5_method_6_code
def yX3_carryOut : MethodName := ⟨RX3, "carryOut", "(LLentPhrases$State;)I"⟩
abbrev cX3_isDigit : ByteArray := prog_5_method_7_code
def yX3_isDigit : MethodName := ⟨RX3, "isDigit", "(C)Z"⟩
def RX4 : String := "LentPhrases$Phrase"
def TX4 : u_T := fun k => match k with
  | 0 => ("LentPhrases$Phrase", "voice", "I", false)
  | 1 => ("LentPhrases$Phrase", "one", "I", false)
  | 2 => ("LentPhrases$Phrase", "two", "I", false)
  | 3 => ("LentPhrases$Phrase", "three", "I", false)
  | 4 => ("LentPhrases$Phrase", "chapter", "I", false)
  | 5 => ("LentPhrases$Phrase", "page", "I", false)
  | 6 => ("LentPhrases$Phrase", "due", "I", false)
  | 7 => ("LentPhrases$Phrase", "home", "I", false)
  | 8 => ("LentPhrases$Phrase", "homePage", "I", false)
  | _ => ("LentPhrases$Phrase", "timesLent", "I", false)
def tyX4 : Nat → FieldType := fun k => match k with
  | 0 => .int
  | 1 => .int
  | 2 => .int
  | 3 => .int
  | 4 => .int
  | 5 => .int
  | 6 => .int
  | 7 => .int
  | 8 => .int
  | _ => .int
theorem nmX4 : ∀ a, a < 10 → ∀ b, b < 10 → a ≠ b → (TX4 a).2.1 ≠ (TX4 b).2.1 := by decide +kernel
theorem tyX4_ok : ∀ k, k < 10 → parseFieldDescriptor (TX4 k).2.2.1 = some (tyX4 k) := by decide +kernel
abbrev cX4_init : ByteArray := prog_6_method_1_code
def yX4_init : MethodName := ⟨RX4, "<init>", "()V"⟩
abbrev cX4_begin : ByteArray := prog_6_method_2_code
def yX4_begin : MethodName := ⟨RX4, "begin", "(IIII)V"⟩
abbrev cX4_copyFrom : ByteArray := prog_6_method_3_code
def yX4_copyFrom : MethodName := ⟨RX4, "copyFrom", "(LLentPhrases$Phrase;)V"⟩
abbrev cX4_isFree : ByteArray := prog_6_method_4_code
def yX4_isFree : MethodName := ⟨RX4, "isFree", "()Z"⟩
abbrev cX4_isLent : ByteArray := prog_6_method_5_code
def yX4_isLent : MethodName := ⟨RX4, "isLent", "()Z"⟩
abbrev cX4_isOn : ByteArray := prog_6_method_6_code
def yX4_isOn : MethodName := ⟨RX4, "isOn", "(II)Z"⟩
abbrev cX4_isKeptOn : ByteArray := prog_6_method_7_code
def yX4_isKeptOn : MethodName := ⟨RX4, "isKeptOn", "(II)Z"⟩
abbrev cX4_hasWords : ByteArray := prog_6_method_8_code
def yX4_hasWords : MethodName := ⟨RX4, "hasWords", "(III)Z"⟩
abbrev cX4_goOut : ByteArray := prog_6_method_9_code
def yX4_goOut : MethodName := ⟨RX4, "goOut", "(III)V"⟩
abbrev cX4_goHome : ByteArray := prog_6_method_10_code
def yX4_goHome : MethodName := ⟨RX4, "goHome", "()V"⟩
abbrev cX4_loseHome : ByteArray := prog_6_method_11_code
def yX4_loseHome : MethodName := ⟨RX4, "loseHome", "()V"⟩
abbrev cX4_closeGap : ByteArray := prog_6_method_12_code
def yX4_closeGap : MethodName := ⟨RX4, "closeGap", "(I)V"⟩
def RX5 : String := "LentPhrases$Reading"
def TX5 : u_T := fun k => match k with
  | 0 => ("LentPhrases$Reading", "order", "LLentPhrases$Order;", true)
  | 1 => ("LentPhrases$Reading", "orders", "I", false)
  | 2 => ("LentPhrases$Reading", "position", "I", false)
  | 3 => ("LentPhrases$Reading", "reason", "I", false)
  | _ => ("LentPhrases$Reading", "cause", "I", false)
def tyX5 : Nat → FieldType := fun k => match k with
  | 0 => .object "LentPhrases$Order"
  | 1 => .int
  | 2 => .int
  | 3 => .int
  | _ => .int
theorem nmX5 : ∀ a, a < 5 → ∀ b, b < 5 → a ≠ b → (TX5 a).2.1 ≠ (TX5 b).2.1 := by decide +kernel
theorem tyX5_ok : ∀ k, k < 5 → parseFieldDescriptor (TX5 k).2.2.1 = some (tyX5 k) := by decide +kernel
abbrev cX5_init : ByteArray := prog_7_method_1_code
def yX5_init : MethodName := ⟨RX5, "<init>", "()V"⟩
abbrev cX5_hasFault : ByteArray := prog_7_method_2_code
def yX5_hasFault : MethodName := ⟨RX5, "hasFault", "()Z"⟩
abbrev cX5_rehearse : ByteArray := prog_7_method_3_code
def yX5_rehearse : MethodName := ⟨RX5, "rehearse", "(LLentPhrases$Text;LLentPhrases$State;)V"⟩
abbrev cX5_rehearseOrder : ByteArray := prog_7_method_4_code
def yX5_rehearseOrder : MethodName := ⟨RX5, "rehearseOrder", "(LLentPhrases$Text;ILLentPhrases$State;)V"⟩
def RX6 : String := "LentPhrases$State"
def TX6 : u_T := fun k => match k with
  | 0 => ("LentPhrases$State", "clients", "[LLentPhrases$Client;", true)
  | 1 => ("LentPhrases$State", "chapters", "[LLentPhrases$Chapter;", true)
  | 2 => ("LentPhrases$State", "phrases", "[LLentPhrases$Phrase;", true)
  | 3 => ("LentPhrases$State", "clientCount", "I", false)
  | 4 => ("LentPhrases$State", "chapterCount", "I", false)
  | 5 => ("LentPhrases$State", "phraseCount", "I", false)
  | 6 => ("LentPhrases$State", "day", "I", false)
  | 7 => ("LentPhrases$State", "account", "I", false)
  | 8 => ("LentPhrases$State", "fees", "I", false)
  | 9 => ("LentPhrases$State", "feeOfDay", "I", false)
  | _ => ("LentPhrases$State", "lossOfDay", "I", false)
def tyX6 : Nat → FieldType := fun k => match k with
  | 0 => .array (.object "LentPhrases$Client")
  | 1 => .array (.object "LentPhrases$Chapter")
  | 2 => .array (.object "LentPhrases$Phrase")
  | 3 => .int
  | 4 => .int
  | 5 => .int
  | 6 => .int
  | 7 => .int
  | 8 => .int
  | 9 => .int
  | _ => .int
theorem nmX6 : ∀ a, a < 11 → ∀ b, b < 11 → a ≠ b → (TX6 a).2.1 ≠ (TX6 b).2.1 := by decide +kernel
theorem tyX6_ok : ∀ k, k < 11 → parseFieldDescriptor (TX6 k).2.2.1 = some (tyX6 k) := by decide +kernel
abbrev cX6_init : ByteArray := prog_8_method_1_code
def yX6_init : MethodName := ⟨RX6, "<init>", "()V"⟩
abbrev cX6_copyFrom : ByteArray := prog_8_method_2_code
def yX6_copyFrom : MethodName := ⟨RX6, "copyFrom", "(LLentPhrases$State;)V"⟩
abbrev cX6_clientAt : ByteArray := prog_8_method_3_code
def yX6_clientAt : MethodName := ⟨RX6, "clientAt", "(I)LLentPhrases$Client;"⟩
abbrev cX6_chapterAt : ByteArray := prog_8_method_4_code
def yX6_chapterAt : MethodName := ⟨RX6, "chapterAt", "(I)LLentPhrases$Chapter;"⟩
abbrev cX6_phraseAt : ByteArray := prog_8_method_5_code
def yX6_phraseAt : MethodName := ⟨RX6, "phraseAt", "(I)LLentPhrases$Phrase;"⟩
abbrev cX6_hasPage : ByteArray := prog_8_method_6_code
def yX6_hasPage : MethodName := ⟨RX6, "hasPage", "(II)Z"⟩
abbrev cX6_holderOf : ByteArray := prog_8_method_7_code
def yX6_holderOf : MethodName := ⟨RX6, "holderOf", "(I)I"⟩
abbrev cX6_purseOf : ByteArray := prog_8_method_8_code
def yX6_purseOf : MethodName := ⟨RX6, "purseOf", "(I)I"⟩
abbrev cX6_pay : ByteArray := prog_8_method_9_code
def yX6_pay : MethodName := ⟨RX6, "pay", "(III)V"⟩
abbrev cX6_receive : ByteArray := prog_8_method_10_code
def yX6_receive : MethodName := ⟨RX6, "receive", "(II)V"⟩
abbrev cX6_worthOf : ByteArray := prog_8_method_11_code
def yX6_worthOf : MethodName := ⟨RX6, "worthOf", "(LLentPhrases$Chapter;)I"⟩
abbrev cX6_addClient : ByteArray := prog_8_method_12_code
def yX6_addClient : MethodName := ⟨RX6, "addClient", "(II)I"⟩
abbrev cX6_addChapter : ByteArray := prog_8_method_13_code
def yX6_addChapter : MethodName := ⟨RX6, "addChapter", "(III)I"⟩
abbrev cX6_addPhrase : ByteArray := prog_8_method_14_code
def yX6_addPhrase : MethodName := ⟨RX6, "addPhrase", "(IIII)I"⟩
abbrev cX6_placePhrase : ByteArray := prog_8_method_15_code
def yX6_placePhrase : MethodName := ⟨RX6, "placePhrase", "(III)I"⟩
abbrev cX6_liftPhrase : ByteArray := prog_8_method_16_code
def yX6_liftPhrase : MethodName := ⟨RX6, "liftPhrase", "(I)I"⟩
abbrev cX6_lendPhrase : ByteArray := prog_8_method_17_code
def yX6_lendPhrase : MethodName := ⟨RX6, "lendPhrase", "(IIII)I"⟩
abbrev cX6_takeBack : ByteArray := prog_8_method_18_code
def yX6_takeBack : MethodName := ⟨RX6, "takeBack", "(I)I"⟩
abbrev cX6_clearOut : ByteArray := prog_8_method_19_code
def yX6_clearOut : MethodName := ⟨RX6, "clearOut", "(LLentPhrases$Phrase;I)V"⟩
abbrev cX6_sellChapter : ByteArray := prog_8_method_20_code
def yX6_sellChapter : MethodName := ⟨RX6, "sellChapter", "(III)I"⟩
abbrev cX6_endLoansAtHome : ByteArray := prog_8_method_21_code
def yX6_endLoansAtHome : MethodName := ⟨RX6, "endLoansAtHome", "()I"⟩
abbrev cX6_passDays : ByteArray := prog_8_method_22_code
def yX6_passDays : MethodName := ⟨RX6, "passDays", "(I)I"⟩
abbrev cX6_sendHomeUntil : ByteArray := prog_8_method_23_code
def yX6_sendHomeUntil : MethodName := ⟨RX6, "sendHomeUntil", "(I)I"⟩
abbrev cX6_changeSetting : ByteArray := prog_8_method_24_code
def yX6_changeSetting : MethodName := ⟨RX6, "changeSetting", "(II)I"⟩
abbrev cX6_isPassing : ByteArray := prog_8_method_25_code
def yX6_isPassing : MethodName := ⟨RX6, "isPassing", "(I)Z"⟩
abbrev cX6_isPrice : ByteArray := prog_8_method_26_code
def yX6_isPrice : MethodName := ⟨RX6, "isPrice", "(I)Z"⟩
abbrev cX6_placesLeft : ByteArray := prog_8_method_27_code
def yX6_placesLeft : MethodName := ⟨RX6, "placesLeft", "(II)I"⟩
abbrev cX6_phraseOnPage : ByteArray := prog_8_method_28_code
def yX6_phraseOnPage : MethodName := ⟨RX6, "phraseOnPage", "(III)I"⟩
abbrev cX6_numberOf : ByteArray := prog_8_method_29_code
def yX6_numberOf : MethodName := ⟨RX6, "numberOf", "(III)I"⟩
abbrev cX6_detailOf : ByteArray := prog_8_method_30_code
def yX6_detailOf : MethodName := ⟨RX6, "detailOf", "(LLentPhrases$Phrase;I)I"⟩
abbrev cX6_chaptersOf : ByteArray := prog_8_method_31_code
def yX6_chaptersOf : MethodName := ⟨RX6, "chaptersOf", "(I)I"⟩
abbrev cX6_phrasesOn : ByteArray := prog_8_method_32_code
def yX6_phrasesOn : MethodName := ⟨RX6, "phrasesOn", "(I)I"⟩
abbrev cX6_phrasesIn : ByteArray := prog_8_method_33_code
def yX6_phrasesIn : MethodName := ⟨RX6, "phrasesIn", "(I)I"⟩
abbrev cX6_lentTo : ByteArray := prog_8_method_34_code
def yX6_lentTo : MethodName := ⟨RX6, "lentTo", "(I)I"⟩
abbrev cX6_lentFrom : ByteArray := prog_8_method_35_code
def yX6_lentFrom : MethodName := ⟨RX6, "lentFrom", "(I)I"⟩
abbrev cX6_tellsIn : ByteArray := prog_8_method_36_code
def yX6_tellsIn : MethodName := ⟨RX6, "tellsIn", "(II)I"⟩
abbrev cX6_tellsInAll : ByteArray := prog_8_method_37_code
def yX6_tellsInAll : MethodName := ⟨RX6, "tellsInAll", "()I"⟩
abbrev cX6_othersLike : ByteArray := prog_8_method_38_code
def yX6_othersLike : MethodName := ⟨RX6, "othersLike", "(I)I"⟩
abbrev cX6_freePhrases : ByteArray := prog_8_method_39_code
def yX6_freePhrases : MethodName := ⟨RX6, "freePhrases", "()I"⟩
abbrev cX6_lentPhrases : ByteArray := prog_8_method_40_code
def yX6_lentPhrases : MethodName := ⟨RX6, "lentPhrases", "()I"⟩
abbrev cX6_firstWords : ByteArray := prog_8_method_41_code
def yX6_firstWords : MethodName := ⟨RX6, "firstWords", "()I"⟩
def RX7 : String := "LentPhrases$Text"
def TX7 : u_T := fun k => match k with
  | 0 => ("LentPhrases$Text", "signs", "[C", true)
  | _ => ("LentPhrases$Text", "length", "I", false)
def tyX7 : Nat → FieldType := fun k => match k with
  | 0 => .array .char
  | _ => .int
theorem nmX7 : ∀ a, a < 2 → ∀ b, b < 2 → a ≠ b → (TX7 a).2.1 ≠ (TX7 b).2.1 := by decide +kernel
theorem tyX7_ok : ∀ k, k < 2 → parseFieldDescriptor (TX7 k).2.2.1 = some (tyX7 k) := by decide +kernel
abbrev cX7_init : ByteArray := prog_9_method_1_code
def yX7_init : MethodName := ⟨RX7, "<init>", "()V"⟩
abbrev cX7_append : ByteArray := prog_9_method_2_code
def yX7_append : MethodName := ⟨RX7, "append", "(I)I"⟩
abbrev cX7_empty : ByteArray := prog_9_method_3_code
def yX7_empty : MethodName := ⟨RX7, "empty", "()I"⟩
abbrev cX7_signAt : ByteArray := prog_9_method_4_code
def yX7_signAt : MethodName := ⟨RX7, "signAt", "(I)C"⟩
def RX8 : String := "LentPhrases"
def TX8 : u_T := fun k => match k with
  | 0 => ("LentPhrases", "now", "LLentPhrases$State;", true)
  | 1 => ("LentPhrases", "trial", "LLentPhrases$State;", true)
  | 2 => ("LentPhrases", "snapshot", "LLentPhrases$State;", true)
  | 3 => ("LentPhrases", "history", "LLentPhrases$History;", true)
  | 4 => ("LentPhrases", "text", "LLentPhrases$Text;", true)
  | 5 => ("LentPhrases", "reading", "LLentPhrases$Reading;", true)
  | _ => ("LentPhrases", "kept", "Z", false)
def tyX8 : Nat → FieldType := fun k => match k with
  | 0 => .object "LentPhrases$State"
  | 1 => .object "LentPhrases$State"
  | 2 => .object "LentPhrases$State"
  | 3 => .object "LentPhrases$History"
  | 4 => .object "LentPhrases$Text"
  | 5 => .object "LentPhrases$Reading"
  | _ => .boolean
theorem nmX8 : ∀ a, a < 7 → ∀ b, b < 7 → a ≠ b → (TX8 a).2.1 ≠ (TX8 b).2.1 := by decide +kernel
theorem tyX8_ok : ∀ k, k < 7 → parseFieldDescriptor (TX8 k).2.2.1 = some (tyX8 k) := by decide +kernel
abbrev cX8_init : ByteArray := prog_1_method_1_code
def yX8_init : MethodName := ⟨RX8, "<init>", "()V"⟩
abbrev cX8_client : ByteArray := prog_1_method_2_code
def yX8_client : MethodName := ⟨RX8, "client", "(II)I"⟩
abbrev cX8_chapter : ByteArray := prog_1_method_3_code
def yX8_chapter : MethodName := ⟨RX8, "chapter", "(III)I"⟩
abbrev cX8_phrase : ByteArray := prog_1_method_4_code
def yX8_phrase : MethodName := ⟨RX8, "phrase", "(IIII)I"⟩
abbrev cX8_place : ByteArray := prog_1_method_5_code
def yX8_place : MethodName := ⟨RX8, "place", "(III)I"⟩
abbrev cX8_lift : ByteArray := prog_1_method_6_code
def yX8_lift : MethodName := ⟨RX8, "lift", "(I)I"⟩
abbrev cX8_lend : ByteArray := prog_1_method_7_code
def yX8_lend : MethodName := ⟨RX8, "lend", "(IIII)I"⟩
abbrev cX8_buyBack : ByteArray := prog_1_method_8_code
def yX8_buyBack : MethodName := ⟨RX8, "buyBack", "(I)I"⟩
abbrev cX8_sell : ByteArray := prog_1_method_9_code
def yX8_sell : MethodName := ⟨RX8, "sell", "(III)I"⟩
abbrev cX8_pass : ByteArray := prog_1_method_10_code
def yX8_pass : MethodName := ⟨RX8, "pass", "(I)I"⟩
abbrev cX8_set : ByteArray := prog_1_method_11_code
def yX8_set : MethodName := ⟨RX8, "set", "(II)I"⟩
abbrev cX8_clientOf : ByteArray := prog_1_method_12_code
def yX8_clientOf : MethodName := ⟨RX8, "clientOf", "(II)I"⟩
abbrev cX8_chapterOf : ByteArray := prog_1_method_13_code
def yX8_chapterOf : MethodName := ⟨RX8, "chapterOf", "(II)I"⟩
abbrev cX8_phraseOf : ByteArray := prog_1_method_14_code
def yX8_phraseOf : MethodName := ⟨RX8, "phraseOf", "(II)I"⟩
abbrev cX8_find : ByteArray := prog_1_method_15_code
def yX8_find : MethodName := ⟨RX8, "find", "(III)I"⟩
abbrev cX8_on : ByteArray := prog_1_method_16_code
def yX8_on : MethodName := ⟨RX8, "on", "(III)I"⟩
abbrev cX8_tells : ByteArray := prog_1_method_17_code
def yX8_tells : MethodName := ⟨RX8, "tells", "(II)I"⟩
abbrev cX8_alike : ByteArray := prog_1_method_18_code
def yX8_alike : MethodName := ⟨RX8, "alike", "(I)I"⟩
abbrev cX8_count : ByteArray := prog_1_method_19_code
def yX8_count : MethodName := ⟨RX8, "count", "(I)I"⟩
abbrev cX8_coming : ByteArray := prog_1_method_20_code
def yX8_coming : MethodName := ⟨RX8, "coming", "(II)I"⟩
abbrev cX8_best : ByteArray := prog_1_method_21_code
def yX8_best : MethodName := ⟨RX8, "best", "(I)I"⟩
abbrev cX8_tellsWithout : ByteArray := prog_1_method_22_code
def yX8_tellsWithout : MethodName := ⟨RX8, "tellsWithout", "(I)I"⟩
abbrev cX8_keep : ByteArray := prog_1_method_23_code
def yX8_keep : MethodName := ⟨RX8, "keep", "()I"⟩
abbrev cX8_restore : ByteArray := prog_1_method_24_code
def yX8_restore : MethodName := ⟨RX8, "restore", "()I"⟩
abbrev cX8_undo : ByteArray := prog_1_method_25_code
def yX8_undo : MethodName := ⟨RX8, "undo", "()I"⟩
abbrev cX8_type : ByteArray := prog_1_method_26_code
def yX8_type : MethodName := ⟨RX8, "type", "(I)I"⟩
abbrev cX8_clearText : ByteArray := prog_1_method_27_code
def yX8_clearText : MethodName := ⟨RX8, "clearText", "()I"⟩
abbrev cX8_fault : ByteArray := prog_1_method_28_code
def yX8_fault : MethodName := ⟨RX8, "fault", "(I)I"⟩
abbrev cX8_play : ByteArray := prog_1_method_29_code
def yX8_play : MethodName := ⟨RX8, "play", "()I"⟩
abbrev cX8_rehearsal : ByteArray := prog_1_method_30_code
def yX8_rehearsal : MethodName := ⟨RX8, "rehearsal", "()LLentPhrases$State;"⟩
abbrev cX8_settle : ByteArray := prog_1_method_31_code
def yX8_settle : MethodName := ⟨RX8, "settle", "(I)I"⟩
abbrev cX8_within : ByteArray := prog_1_method_32_code
def yX8_within : MethodName := ⟨RX8, "within", "(III)Z"⟩
abbrev cX8_isVoice : ByteArray := prog_1_method_33_code
def yX8_isVoice : MethodName := ⟨RX8, "isVoice", "(I)Z"⟩
abbrev cX8_areWords : ByteArray := prog_1_method_34_code
def yX8_areWords : MethodName := ⟨RX8, "areWords", "(III)Z"⟩
def RX9 : String := "LentPhrasesModel"
def TX9 : u_T := fun k => match k with
  | 0 => ("LentPhrasesModel", "s", "[I", true)
  | 1 => ("LentPhrasesModel", "past", "[I", true)
  | 2 => ("LentPhrasesModel", "kept", "[I", true)
  | 3 => ("LentPhrasesModel", "held", "[I", true)
  | 4 => ("LentPhrasesModel", "tried", "[I", true)
  | 5 => ("LentPhrasesModel", "isKept", "Z", false)
  | 6 => ("LentPhrasesModel", "runs", "Z", false)
  | 7 => ("LentPhrasesModel", "pasts", "I", false)
  | 8 => ("LentPhrasesModel", "text", "[I", true)
  | 9 => ("LentPhrasesModel", "typed", "I", false)
  | 10 => ("LentPhrasesModel", "spot", "I", false)
  | 11 => ("LentPhrasesModel", "from", "I", false)
  | 12 => ("LentPhrasesModel", "reason", "I", false)
  | 13 => ("LentPhrasesModel", "cause", "I", false)
  | 14 => ("LentPhrasesModel", "orders", "I", false)
  | 15 => ("LentPhrasesModel", "order", "I", false)
  | 16 => ("LentPhrasesModel", "numbers", "I", false)
  | _ => ("LentPhrasesModel", "told", "[I", true)
def tyX9 : Nat → FieldType := fun k => match k with
  | 0 => .array .int
  | 1 => .array .int
  | 2 => .array .int
  | 3 => .array .int
  | 4 => .array .int
  | 5 => .boolean
  | 6 => .boolean
  | 7 => .int
  | 8 => .array .int
  | 9 => .int
  | 10 => .int
  | 11 => .int
  | 12 => .int
  | 13 => .int
  | 14 => .int
  | 15 => .int
  | 16 => .int
  | _ => .array .int
theorem nmX9 : ∀ a, a < 18 → ∀ b, b < 18 → a ≠ b → (TX9 a).2.1 ≠ (TX9 b).2.1 := by decide +kernel
theorem tyX9_ok : ∀ k, k < 18 → parseFieldDescriptor (TX9 k).2.2.1 = some (tyX9 k) := by decide +kernel
abbrev cX9_init : ByteArray := prog_11_method_1_code
def yX9_init : MethodName := ⟨RX9, "<init>", "()V"⟩
abbrev cX9_in : ByteArray := prog_11_method_3_code
def yX9_in : MethodName := ⟨RX9, "in", "(III)Z"⟩
abbrev cX9_copies : ByteArray := prog_11_method_4_code
def yX9_copies : MethodName := ⟨RX9, "copies", "([I[I)V"⟩
abbrev cX9_changes : ByteArray := prog_11_method_5_code
def yX9_changes : MethodName := ⟨RX9, "changes", "()V"⟩
abbrev cX9_isClient : ByteArray := prog_11_method_6_code
def yX9_isClient : MethodName := ⟨RX9, "isClient", "(I)Z"⟩
abbrev cX9_isChapter : ByteArray := prog_11_method_7_code
def yX9_isChapter : MethodName := ⟨RX9, "isChapter", "(I)Z"⟩
abbrev cX9_isPage : ByteArray := prog_11_method_8_code
def yX9_isPage : MethodName := ⟨RX9, "isPage", "(II)Z"⟩
abbrev cX9_isPhrase : ByteArray := prog_11_method_9_code
def yX9_isPhrase : MethodName := ⟨RX9, "isPhrase", "(I)Z"⟩
abbrev cX9_ofClient : ByteArray := prog_11_method_10_code
def yX9_ofClient : MethodName := ⟨RX9, "ofClient", "(II)I"⟩
abbrev cX9_ofChapter : ByteArray := prog_11_method_11_code
def yX9_ofChapter : MethodName := ⟨RX9, "ofChapter", "(II)I"⟩
abbrev cX9_of : ByteArray := prog_11_method_12_code
def yX9_of : MethodName := ⟨RX9, "of", "(II)I"⟩
abbrev cX9_sets : ByteArray := prog_11_method_13_code
def yX9_sets : MethodName := ⟨RX9, "sets", "(III)V"⟩
abbrev cX9_isFree : ByteArray := prog_11_method_14_code
def yX9_isFree : MethodName := ⟨RX9, "isFree", "(I)Z"⟩
abbrev cX9_isLent : ByteArray := prog_11_method_15_code
def yX9_isLent : MethodName := ⟨RX9, "isLent", "(I)Z"⟩
abbrev cX9_bookOf : ByteArray := prog_11_method_16_code
def yX9_bookOf : MethodName := ⟨RX9, "bookOf", "(I)I"⟩
abbrev cX9_client : ByteArray := prog_11_method_17_code
def yX9_client : MethodName := ⟨RX9, "client", "(II)I"⟩
abbrev cX9_chapter : ByteArray := prog_11_method_18_code
def yX9_chapter : MethodName := ⟨RX9, "chapter", "(III)I"⟩
abbrev cX9_areWords : ByteArray := prog_11_method_19_code
def yX9_areWords : MethodName := ⟨RX9, "areWords", "(III)Z"⟩
abbrev cX9_found : ByteArray := prog_11_method_20_code
def yX9_found : MethodName := ⟨RX9, "found", "(III)I"⟩
abbrev cX9_goesFree : ByteArray := prog_11_method_21_code
def yX9_goesFree : MethodName := ⟨RX9, "goesFree", "(I)V"⟩
abbrev cX9_phrase : ByteArray := prog_11_method_22_code
def yX9_phrase : MethodName := ⟨RX9, "phrase", "(IIII)I"⟩
abbrev cX9_left : ByteArray := prog_11_method_23_code
def yX9_left : MethodName := ⟨RX9, "left", "(II)I"⟩
abbrev cX9_puts : ByteArray := prog_11_method_24_code
def yX9_puts : MethodName := ⟨RX9, "puts", "(III)V"⟩
abbrev cX9_place : ByteArray := prog_11_method_25_code
def yX9_place : MethodName := ⟨RX9, "place", "(III)I"⟩
abbrev cX9_lift : ByteArray := prog_11_method_26_code
def yX9_lift : MethodName := ⟨RX9, "lift", "(I)I"⟩
abbrev cX9_lend : ByteArray := prog_11_method_27_code
def yX9_lend : MethodName := ⟨RX9, "lend", "(IIII)I"⟩
abbrev cX9_goesHome : ByteArray := prog_11_method_28_code
def yX9_goesHome : MethodName := ⟨RX9, "goesHome", "(I)V"⟩
abbrev cX9_worth : ByteArray := prog_11_method_29_code
def yX9_worth : MethodName := ⟨RX9, "worth", "(I)I"⟩
abbrev cX9_leaves : ByteArray := prog_11_method_30_code
def yX9_leaves : MethodName := ⟨RX9, "leaves", "(I)V"⟩
abbrev cX9_buysBack : ByteArray := prog_11_method_31_code
def yX9_buysBack : MethodName := ⟨RX9, "buysBack", "(I)I"⟩
abbrev cX9_buyBack : ByteArray := prog_11_method_32_code
def yX9_buyBack : MethodName := ⟨RX9, "buyBack", "(I)I"⟩
abbrev cX9_sell : ByteArray := prog_11_method_33_code
def yX9_sell : MethodName := ⟨RX9, "sell", "(III)I"⟩
abbrev cX9_begins : ByteArray := prog_11_method_34_code
def yX9_begins : MethodName := ⟨RX9, "begins", "()I"⟩
abbrev cX9_passes : ByteArray := prog_11_method_35_code
def yX9_passes : MethodName := ⟨RX9, "passes", "(I)I"⟩
abbrev cX9_pass : ByteArray := prog_11_method_36_code
def yX9_pass : MethodName := ⟨RX9, "pass", "(I)I"⟩
abbrev cX9_set : ByteArray := prog_11_method_37_code
def yX9_set : MethodName := ⟨RX9, "set", "(II)I"⟩
abbrev cX9_chaptersOf : ByteArray := prog_11_method_38_code
def yX9_chaptersOf : MethodName := ⟨RX9, "chaptersOf", "(I)I"⟩
abbrev cX9_inBook : ByteArray := prog_11_method_39_code
def yX9_inBook : MethodName := ⟨RX9, "inBook", "(IZ)I"⟩
abbrev cX9_lentFrom : ByteArray := prog_11_method_40_code
def yX9_lentFrom : MethodName := ⟨RX9, "lentFrom", "(I)I"⟩
abbrev cX9_tellsIn : ByteArray := prog_11_method_41_code
def yX9_tellsIn : MethodName := ⟨RX9, "tellsIn", "(II)I"⟩
abbrev cX9_allTells : ByteArray := prog_11_method_42_code
def yX9_allTells : MethodName := ⟨RX9, "allTells", "()I"⟩
abbrev cX9_clientOf : ByteArray := prog_11_method_43_code
def yX9_clientOf : MethodName := ⟨RX9, "clientOf", "(II)I"⟩
abbrev cX9_onChapter : ByteArray := prog_11_method_44_code
def yX9_onChapter : MethodName := ⟨RX9, "onChapter", "(I)I"⟩
abbrev cX9_chapterOf : ByteArray := prog_11_method_45_code
def yX9_chapterOf : MethodName := ⟨RX9, "chapterOf", "(II)I"⟩
abbrev cX9_phraseOf : ByteArray := prog_11_method_46_code
def yX9_phraseOf : MethodName := ⟨RX9, "phraseOf", "(II)I"⟩
abbrev cX9_find : ByteArray := prog_11_method_47_code
def yX9_find : MethodName := ⟨RX9, "find", "(III)I"⟩
abbrev cX9_on : ByteArray := prog_11_method_48_code
def yX9_on : MethodName := ⟨RX9, "on", "(III)I"⟩
abbrev cX9_tells : ByteArray := prog_11_method_49_code
def yX9_tells : MethodName := ⟨RX9, "tells", "(II)I"⟩
abbrev cX9_alike : ByteArray := prog_11_method_50_code
def yX9_alike : MethodName := ⟨RX9, "alike", "(I)I"⟩
abbrev cX9_ofPhrases : ByteArray := prog_11_method_51_code
def yX9_ofPhrases : MethodName := ⟨RX9, "ofPhrases", "(Z)I"⟩
abbrev cX9_firstWords : ByteArray := prog_11_method_52_code
def yX9_firstWords : MethodName := ⟨RX9, "firstWords", "()I"⟩
abbrev cX9_count : ByteArray := prog_11_method_53_code
def yX9_count : MethodName := ⟨RX9, "count", "(I)I"⟩
abbrev cX9_coming : ByteArray := prog_11_method_54_code
def yX9_coming : MethodName := ⟨RX9, "coming", "(II)I"⟩
abbrev cX9_best : ByteArray := prog_11_method_55_code
def yX9_best : MethodName := ⟨RX9, "best", "(I)I"⟩
abbrev cX9_keep : ByteArray := prog_11_method_56_code
def yX9_keep : MethodName := ⟨RX9, "keep", "()I"⟩
abbrev cX9_restore : ByteArray := prog_11_method_57_code
def yX9_restore : MethodName := ⟨RX9, "restore", "()I"⟩
abbrev cX9_undo : ByteArray := prog_11_method_58_code
def yX9_undo : MethodName := ⟨RX9, "undo", "()I"⟩
abbrev cX9_type : ByteArray := prog_11_method_59_code
def yX9_type : MethodName := ⟨RX9, "type", "(I)I"⟩
abbrev cX9_clearText : ByteArray := prog_11_method_60_code
def yX9_clearText : MethodName := ⟨RX9, "clearText", "()I"⟩
abbrev cX9_isAt : ByteArray := prog_11_method_61_code
def yX9_isAt : MethodName := ⟨RX9, "isAt", "(II)Z"⟩
abbrev cX9_sign : ByteArray := prog_11_method_62_code
def yX9_sign : MethodName := ⟨RX9, "sign", "(I)Z"⟩
abbrev cX9_numbered : ByteArray := prog_11_method_63_code
def yX9_numbered : MethodName := ⟨RX9, "numbered", "()Z"⟩
abbrev cX9_areMany : ByteArray := prog_11_method_64_code
def yX9_areMany : MethodName := ⟨RX9, "areMany", "()Z"⟩
abbrev cX9_reads : ByteArray := prog_11_method_65_code
def yX9_reads : MethodName := ⟨RX9, "reads", "()Z"⟩
abbrev cX9_calls : ByteArray := prog_11_method_66_code
def yX9_calls : MethodName := ⟨RX9, "calls", "()I"⟩
abbrev cX9_plays : ByteArray := prog_11_method_67_code
def yX9_plays : MethodName := ⟨RX9, "plays", "()Z"⟩
abbrev cX9_fault : ByteArray := prog_11_method_68_code
def yX9_fault : MethodName := ⟨RX9, "fault", "(I)I"⟩
abbrev cX9_play : ByteArray := prog_11_method_69_code
def yX9_play : MethodName := ⟨RX9, "play", "()I"⟩
def RL : String := "LentPhrasesLaw"
abbrev cL_law : ByteArray := code
def yL_law : MethodName := ⟨RL, "law", "([I)Z"⟩
abbrev vwCl : List vw_C := [(RX0, TX0, 4), (RX1, TX1, 2), (RX2, TX2, 2), (RX3, TX3, 4), (RX4, TX4, 10), (RX5, TX5, 5), (RX6, TX6, 11), (RX7, TX7, 2), (RX8, TX8, 7), (RX9, TX9, 18)]
end
section
/-! the methods: name, bytes, locals, what it returns, class, kind (0 of an object, 1 static, 2 constructor), parameters -/
abbrev xMI : Type := MethodName × ByteArray × Nat × Option FieldType × Nat × Nat × Nat
def xMI0 : xMI := (⟨"", "", ""⟩, ⟨#[]⟩, 0, none, 99, 99, 0)
def xMT : List xMI := [
  (yX0_init, prog_2_method_1_code, 1, none, 0, 2, 0),
  (yX0_copyFrom, prog_2_method_2_code, 2, none, 0, 0, 1),
  (yX1_init, prog_3_method_1_code, 1, none, 1, 2, 0),
  (yX1_copyFrom, prog_3_method_2_code, 2, none, 1, 0, 1),
  (yX2_init, prog_4_method_1_code, 2, none, 2, 2, 0),
  (yX2_push, prog_4_method_2_code, 2, none, 2, 0, 1),
  (yX2_dropOldest, prog_4_method_3_code, 3, none, 2, 0, 0),
  (yX2_popInto, prog_4_method_4_code, 2, (some .boolean), 2, 0, 1),
  (yX3_init, prog_5_method_1_code, 1, none, 3, 2, 0),
  (yX3_read, prog_5_method_2_code, 4, (some .boolean), 3, 0, 2),
  (yX3_readNumbers, prog_5_method_3_code, 4, (some .boolean), 3, 0, 1),
  (yX3_readNumber, prog_5_method_4_code, 3, (some .int), 3, 0, 1),
  (yX3_hasItsNumbers, prog_5_method_5_code, 1, (some .boolean), 3, 0, 0),
  (yX3_carryOut, prog_5_method_6_code, 2, (some .int), 3, 0, 1),
  (yX3_isDigit, prog_5_method_7_code, 1, (some .boolean), 3, 1, 1),
  (yX4_init, prog_6_method_1_code, 1, none, 4, 2, 0),
  (yX4_begin, prog_6_method_2_code, 5, none, 4, 0, 4),
  (yX4_copyFrom, prog_6_method_3_code, 2, none, 4, 0, 1),
  (yX4_isFree, prog_6_method_4_code, 1, (some .boolean), 4, 0, 0),
  (yX4_isLent, prog_6_method_5_code, 1, (some .boolean), 4, 0, 0),
  (yX4_isOn, prog_6_method_6_code, 3, (some .boolean), 4, 0, 2),
  (yX4_isKeptOn, prog_6_method_7_code, 3, (some .boolean), 4, 0, 2),
  (yX4_hasWords, prog_6_method_8_code, 4, (some .boolean), 4, 0, 3),
  (yX4_goOut, prog_6_method_9_code, 4, none, 4, 0, 3),
  (yX4_goHome, prog_6_method_10_code, 1, none, 4, 0, 0),
  (yX4_loseHome, prog_6_method_11_code, 1, none, 4, 0, 0),
  (yX4_closeGap, prog_6_method_12_code, 2, none, 4, 0, 1),
  (yX5_init, prog_7_method_1_code, 1, none, 5, 2, 0),
  (yX5_hasFault, prog_7_method_2_code, 1, (some .boolean), 5, 0, 0),
  (yX5_rehearse, prog_7_method_3_code, 5, none, 5, 0, 2),
  (yX5_rehearseOrder, prog_7_method_4_code, 5, none, 5, 0, 3),
  (yX6_init, prog_8_method_1_code, 2, none, 6, 2, 0),
  (yX6_copyFrom, prog_8_method_2_code, 3, none, 6, 0, 1),
  (yX6_clientAt, prog_8_method_3_code, 2, (some (.object "LentPhrases$Client")), 6, 0, 1),
  (yX6_chapterAt, prog_8_method_4_code, 2, (some (.object "LentPhrases$Chapter")), 6, 0, 1),
  (yX6_phraseAt, prog_8_method_5_code, 2, (some (.object "LentPhrases$Phrase")), 6, 0, 1),
  (yX6_hasPage, prog_8_method_6_code, 4, (some .boolean), 6, 0, 2),
  (yX6_holderOf, prog_8_method_7_code, 3, (some .int), 6, 0, 1),
  (yX6_purseOf, prog_8_method_8_code, 3, (some .int), 6, 0, 1),
  (yX6_pay, prog_8_method_9_code, 4, none, 6, 0, 3),
  (yX6_receive, prog_8_method_10_code, 4, none, 6, 0, 2),
  (yX6_worthOf, prog_8_method_11_code, 3, (some .int), 6, 0, 1),
  (yX6_addClient, prog_8_method_12_code, 4, (some .int), 6, 0, 2),
  (yX6_addChapter, prog_8_method_13_code, 5, (some .int), 6, 0, 3),
  (yX6_addPhrase, prog_8_method_14_code, 5, (some .int), 6, 0, 4),
  (yX6_placePhrase, prog_8_method_15_code, 5, (some .int), 6, 0, 3),
  (yX6_liftPhrase, prog_8_method_16_code, 4, (some .int), 6, 0, 1),
  (yX6_lendPhrase, prog_8_method_17_code, 9, (some .int), 6, 0, 4),
  (yX6_takeBack, prog_8_method_18_code, 5, (some .int), 6, 0, 1),
  (yX6_clearOut, prog_8_method_19_code, 3, none, 6, 0, 2),
  (yX6_sellChapter, prog_8_method_20_code, 5, (some .int), 6, 0, 3),
  (yX6_endLoansAtHome, prog_8_method_21_code, 4, (some .int), 6, 0, 0),
  (yX6_passDays, prog_8_method_22_code, 2, (some .int), 6, 0, 1),
  (yX6_sendHomeUntil, prog_8_method_23_code, 5, (some .int), 6, 0, 1),
  (yX6_changeSetting, prog_8_method_24_code, 4, (some .int), 6, 0, 2),
  (yX6_isPassing, prog_8_method_25_code, 1, (some .boolean), 6, 1, 1),
  (yX6_isPrice, prog_8_method_26_code, 1, (some .boolean), 6, 1, 1),
  (yX6_placesLeft, prog_8_method_27_code, 5, (some .int), 6, 0, 2),
  (yX6_phraseOnPage, prog_8_method_28_code, 6, (some .int), 6, 0, 3),
  (yX6_numberOf, prog_8_method_29_code, 5, (some .int), 6, 0, 3),
  (yX6_detailOf, prog_8_method_30_code, 3, (some .int), 6, 0, 2),
  (yX6_chaptersOf, prog_8_method_31_code, 4, (some .int), 6, 0, 1),
  (yX6_phrasesOn, prog_8_method_32_code, 4, (some .int), 6, 0, 1),
  (yX6_phrasesIn, prog_8_method_33_code, 4, (some .int), 6, 0, 1),
  (yX6_lentTo, prog_8_method_34_code, 4, (some .int), 6, 0, 1),
  (yX6_lentFrom, prog_8_method_35_code, 4, (some .int), 6, 0, 1),
  (yX6_tellsIn, prog_8_method_36_code, 8, (some .int), 6, 0, 2),
  (yX6_tellsInAll, prog_8_method_37_code, 3, (some .int), 6, 0, 0),
  (yX6_othersLike, prog_8_method_38_code, 6, (some .int), 6, 0, 1),
  (yX6_freePhrases, prog_8_method_39_code, 3, (some .int), 6, 0, 0),
  (yX6_lentPhrases, prog_8_method_40_code, 3, (some .int), 6, 0, 0),
  (yX6_firstWords, prog_8_method_41_code, 7, (some .int), 6, 0, 0),
  (yX7_init, prog_9_method_1_code, 1, none, 7, 2, 0),
  (yX7_append, prog_9_method_2_code, 2, (some .int), 7, 0, 1),
  (yX7_empty, prog_9_method_3_code, 2, (some .int), 7, 0, 0),
  (yX7_signAt, prog_9_method_4_code, 2, (some .char), 7, 0, 1),
  (yX8_init, prog_1_method_1_code, 1, none, 8, 2, 0),
  (yX8_client, prog_1_method_2_code, 3, (some .int), 8, 0, 2),
  (yX8_chapter, prog_1_method_3_code, 4, (some .int), 8, 0, 3),
  (yX8_phrase, prog_1_method_4_code, 5, (some .int), 8, 0, 4),
  (yX8_place, prog_1_method_5_code, 4, (some .int), 8, 0, 3),
  (yX8_lift, prog_1_method_6_code, 2, (some .int), 8, 0, 1),
  (yX8_lend, prog_1_method_7_code, 5, (some .int), 8, 0, 4),
  (yX8_buyBack, prog_1_method_8_code, 2, (some .int), 8, 0, 1),
  (yX8_sell, prog_1_method_9_code, 4, (some .int), 8, 0, 3),
  (yX8_pass, prog_1_method_10_code, 2, (some .int), 8, 0, 1),
  (yX8_set, prog_1_method_11_code, 3, (some .int), 8, 0, 2),
  (yX8_clientOf, prog_1_method_12_code, 4, (some .int), 8, 0, 2),
  (yX8_chapterOf, prog_1_method_13_code, 4, (some .int), 8, 0, 2),
  (yX8_phraseOf, prog_1_method_14_code, 5, (some .int), 8, 0, 2),
  (yX8_find, prog_1_method_15_code, 5, (some .int), 8, 0, 3),
  (yX8_on, prog_1_method_16_code, 5, (some .int), 8, 0, 3),
  (yX8_tells, prog_1_method_17_code, 3, (some .int), 8, 0, 2),
  (yX8_alike, prog_1_method_18_code, 3, (some .int), 8, 0, 1),
  (yX8_count, prog_1_method_19_code, 2, (some .int), 8, 0, 1),
  (yX8_coming, prog_1_method_20_code, 5, (some .int), 8, 0, 2),
  (yX8_best, prog_1_method_21_code, 6, (some .int), 8, 0, 1),
  (yX8_tellsWithout, prog_1_method_22_code, 3, (some .int), 8, 0, 1),
  (yX8_keep, prog_1_method_23_code, 1, (some .int), 8, 0, 0),
  (yX8_restore, prog_1_method_24_code, 1, (some .int), 8, 0, 0),
  (yX8_undo, prog_1_method_25_code, 1, (some .int), 8, 0, 0),
  (yX8_type, prog_1_method_26_code, 2, (some .int), 8, 0, 1),
  (yX8_clearText, prog_1_method_27_code, 1, (some .int), 8, 0, 0),
  (yX8_fault, prog_1_method_28_code, 2, (some .int), 8, 0, 1),
  (yX8_play, prog_1_method_29_code, 1, (some .int), 8, 0, 0),
  (yX8_rehearsal, prog_1_method_30_code, 1, (some (.object "LentPhrases$State")), 8, 0, 0),
  (yX8_settle, prog_1_method_31_code, 2, (some .int), 8, 0, 1),
  (yX8_within, prog_1_method_32_code, 3, (some .boolean), 8, 1, 3),
  (yX8_isVoice, prog_1_method_33_code, 1, (some .boolean), 8, 1, 1),
  (yX8_areWords, prog_1_method_34_code, 3, (some .boolean), 8, 1, 3),
  (yX9_init, prog_11_method_1_code, 1, none, 9, 2, 0),
  (yX9_in, prog_11_method_3_code, 3, (some .boolean), 9, 1, 3),
  (yX9_copies, prog_11_method_4_code, 3, none, 9, 1, 2),
  (yX9_changes, prog_11_method_5_code, 2, none, 9, 0, 0),
  (yX9_isClient, prog_11_method_6_code, 2, (some .boolean), 9, 0, 1),
  (yX9_isChapter, prog_11_method_7_code, 2, (some .boolean), 9, 0, 1),
  (yX9_isPage, prog_11_method_8_code, 3, (some .boolean), 9, 0, 2),
  (yX9_isPhrase, prog_11_method_9_code, 2, (some .boolean), 9, 0, 1),
  (yX9_ofClient, prog_11_method_10_code, 3, (some .int), 9, 0, 2),
  (yX9_ofChapter, prog_11_method_11_code, 3, (some .int), 9, 0, 2),
  (yX9_of, prog_11_method_12_code, 3, (some .int), 9, 0, 2),
  (yX9_sets, prog_11_method_13_code, 4, none, 9, 0, 3),
  (yX9_isFree, prog_11_method_14_code, 2, (some .boolean), 9, 0, 1),
  (yX9_isLent, prog_11_method_15_code, 2, (some .boolean), 9, 0, 1),
  (yX9_bookOf, prog_11_method_16_code, 2, (some .int), 9, 0, 1),
  (yX9_client, prog_11_method_17_code, 4, (some .int), 9, 0, 2),
  (yX9_chapter, prog_11_method_18_code, 5, (some .int), 9, 0, 3),
  (yX9_areWords, prog_11_method_19_code, 3, (some .boolean), 9, 1, 3),
  (yX9_found, prog_11_method_20_code, 5, (some .int), 9, 0, 3),
  (yX9_goesFree, prog_11_method_21_code, 2, none, 9, 0, 1),
  (yX9_phrase, prog_11_method_22_code, 6, (some .int), 9, 0, 4),
  (yX9_left, prog_11_method_23_code, 5, (some .int), 9, 0, 2),
  (yX9_puts, prog_11_method_24_code, 4, none, 9, 0, 3),
  (yX9_place, prog_11_method_25_code, 4, (some .int), 9, 0, 3),
  (yX9_lift, prog_11_method_26_code, 3, (some .int), 9, 0, 1),
  (yX9_lend, prog_11_method_27_code, 7, (some .int), 9, 0, 4),
  (yX9_goesHome, prog_11_method_28_code, 4, none, 9, 0, 1),
  (yX9_worth, prog_11_method_29_code, 3, (some .int), 9, 0, 1),
  (yX9_leaves, prog_11_method_30_code, 3, none, 9, 0, 1),
  (yX9_buysBack, prog_11_method_31_code, 4, (some .int), 9, 0, 1),
  (yX9_buyBack, prog_11_method_32_code, 2, (some .int), 9, 0, 1),
  (yX9_sell, prog_11_method_33_code, 8, (some .int), 9, 0, 3),
  (yX9_begins, prog_11_method_34_code, 3, (some .int), 9, 0, 0),
  (yX9_passes, prog_11_method_35_code, 4, (some .int), 9, 0, 1),
  (yX9_pass, prog_11_method_36_code, 2, (some .int), 9, 0, 1),
  (yX9_set, prog_11_method_37_code, 4, (some .int), 9, 0, 2),
  (yX9_chaptersOf, prog_11_method_38_code, 4, (some .int), 9, 0, 1),
  (yX9_inBook, prog_11_method_39_code, 5, (some .int), 9, 0, 2),
  (yX9_lentFrom, prog_11_method_40_code, 4, (some .int), 9, 0, 1),
  (yX9_tellsIn, prog_11_method_41_code, 6, (some .int), 9, 0, 2),
  (yX9_allTells, prog_11_method_42_code, 3, (some .int), 9, 0, 0),
  (yX9_clientOf, prog_11_method_43_code, 3, (some .int), 9, 0, 2),
  (yX9_onChapter, prog_11_method_44_code, 4, (some .int), 9, 0, 1),
  (yX9_chapterOf, prog_11_method_45_code, 3, (some .int), 9, 0, 2),
  (yX9_phraseOf, prog_11_method_46_code, 4, (some .int), 9, 0, 2),
  (yX9_find, prog_11_method_47_code, 4, (some .int), 9, 0, 3),
  (yX9_on, prog_11_method_48_code, 6, (some .int), 9, 0, 3),
  (yX9_tells, prog_11_method_49_code, 3, (some .int), 9, 0, 2),
  (yX9_alike, prog_11_method_50_code, 4, (some .int), 9, 0, 1),
  (yX9_ofPhrases, prog_11_method_51_code, 4, (some .int), 9, 0, 1),
  (yX9_firstWords, prog_11_method_52_code, 5, (some .int), 9, 0, 0),
  (yX9_count, prog_11_method_53_code, 2, (some .int), 9, 0, 1),
  (yX9_coming, prog_11_method_54_code, 5, (some .int), 9, 0, 2),
  (yX9_best, prog_11_method_55_code, 8, (some .int), 9, 0, 1),
  (yX9_keep, prog_11_method_56_code, 1, (some .int), 9, 0, 0),
  (yX9_restore, prog_11_method_57_code, 1, (some .int), 9, 0, 0),
  (yX9_undo, prog_11_method_58_code, 2, (some .int), 9, 0, 0),
  (yX9_type, prog_11_method_59_code, 2, (some .int), 9, 0, 1),
  (yX9_clearText, prog_11_method_60_code, 2, (some .int), 9, 0, 0),
  (yX9_isAt, prog_11_method_61_code, 3, (some .boolean), 9, 0, 2),
  (yX9_sign, prog_11_method_62_code, 3, (some .boolean), 9, 0, 1),
  (yX9_numbered, prog_11_method_63_code, 3, (some .boolean), 9, 0, 0),
  (yX9_areMany, prog_11_method_64_code, 1, (some .boolean), 9, 0, 0),
  (yX9_reads, prog_11_method_65_code, 2, (some .boolean), 9, 0, 0),
  (yX9_calls, prog_11_method_66_code, 1, (some .int), 9, 0, 0),
  (yX9_plays, prog_11_method_67_code, 3, (some .boolean), 9, 0, 0),
  (yX9_fault, prog_11_method_68_code, 3, (some .int), 9, 0, 1),
  (yX9_play, prog_11_method_69_code, 2, (some .int), 9, 0, 0),
  (yL_law, code, 4, (some .boolean), 10, 1, 1)]
def xM (o : Nat) : xMI := (xMT[o]?).getD xMI0
def xY (o : Nat) : MethodName := (xM o).1
def xB (o : Nat) : ByteArray := (xM o).2.1
def xL (o : Nat) : Nat := (xM o).2.2.1
def xRt (o : Nat) : Option FieldType := (xM o).2.2.2.1
def xCl (o : Nat) : Nat := (xM o).2.2.2.2.1
def xKd (o : Nat) : Nat := (xM o).2.2.2.2.2.1
def xAr (o : Nat) : Nat := (xM o).2.2.2.2.2.2
def xCN : Nat → String
  | 0 => RX0
  | 1 => RX1
  | 2 => RX2
  | 3 => RX3
  | 4 => RX4
  | 5 => RX5
  | 6 => RX6
  | 7 => RX7
  | 8 => RX8
  | 9 => RX9
  | 10 => RL
  | _ => "java/lang/Math"
/-- calls: class, entry, method, 1 by the nest -/
def xRT : List (Nat × Nat × Nat × Nat) := [(2, 19, 31, 0), (2, 20, 6, 0), (2, 23, 32, 0), (3, 15, 75, 0), (3, 31, 10, 0), (3, 35, 12, 0), (3, 39, 14, 0), (3, 43, 11, 0), (3, 47, 44, 0), (3, 53, 45, 0), (3, 57, 47, 0), (3, 60, 46, 0), (3, 64, 52, 0), (4, 33, 25, 0), (5, 11, 8, 1), (5, 30, 28, 0), (5, 34, 30, 0), (5, 41, 9, 0), (5, 51, 13, 0), (6, 54, 2, 1), (6, 55, 0, 1), (6, 56, 15, 1), (6, 57, 3, 0), (6, 61, 1, 0), (6, 64, 17, 0), (6, 67, 34, 0), (6, 77, 33, 0), (6, 84, 40, 0), (6, 100, 108, 1), (6, 104, 107, 1), (6, 113, 56, 0), (6, 116, 38, 0), (6, 121, 39, 0), (6, 125, 109, 1), (6, 128, 59, 0), (6, 132, 16, 0), (6, 136, 35, 0), (6, 140, 36, 0), (6, 144, 18, 0), (6, 148, 57, 0), (6, 157, 19, 0), (6, 160, 24, 0), (6, 163, 37, 0), (6, 166, 23, 0), (6, 169, 41, 0), (6, 173, 49, 0), (6, 180, 25, 0), (6, 183, 26, 0), (6, 187, 51, 0), (6, 191, 55, 0), (6, 194, 53, 0), (6, 200, 20, 0), (6, 203, 21, 0), (6, 206, 22, 0), (6, 225, 66, 0), (7, 19, 107, 1), (8, 9, 31, 0), (8, 24, 4, 0), (8, 31, 72, 1), (8, 38, 27, 1), (8, 43, 105, 0), (8, 47, 42, 0), (8, 51, 106, 0), (8, 55, 43, 0), (8, 59, 44, 0), (8, 63, 45, 0), (8, 66, 46, 0), (8, 69, 47, 0), (8, 72, 48, 0), (8, 75, 50, 0), (8, 78, 52, 0), (8, 81, 54, 0), (8, 84, 33, 0), (8, 98, 61, 0), (8, 101, 63, 0), (8, 104, 64, 0), (8, 107, 65, 0), (8, 110, 66, 0), (8, 113, 34, 0), (8, 131, 62, 0), (8, 134, 41, 0), (8, 138, 35, 0), (8, 142, 107, 0), (8, 146, 60, 0), (8, 151, 109, 0), (8, 154, 59, 0), (8, 157, 36, 0), (8, 161, 57, 0), (8, 164, 58, 0), (8, 167, 18, 0), (8, 174, 68, 0), (8, 189, 69, 0), (8, 193, 70, 0), (8, 212, 71, 0), (8, 221, 55, 0), (8, 225, 53, 0), (8, 228, 67, 0), (8, 231, 97, 0), (8, 234, 32, 0), (8, 238, 5, 0), (8, 241, 7, 0), (8, 245, 73, 0), (8, 248, 74, 0), (8, 251, 29, 0), (8, 255, 28, 0), (9, 39, 115, 0), (9, 43, 119, 0), (9, 47, 120, 0), (9, 50, 111, 0), (9, 56, 113, 0), (9, 59, 114, 0), (9, 62, 118, 0), (9, 67, 121, 0), (9, 71, 127, 0), (9, 74, 128, 0), (9, 78, 129, 0), (9, 82, 117, 0), (9, 85, 116, 0), (9, 89, 122, 0), (9, 92, 131, 0), (9, 95, 132, 0), (9, 98, 123, 0), (9, 101, 124, 0), (9, 105, 136, 0), (9, 108, 137, 0), (9, 111, 138, 0), (9, 114, 139, 0), (9, 117, 142, 0), (9, 121, 143, 0), (9, 124, 149, 0), (9, 127, 146, 0), (9, 130, 147, 0), (9, 134, 148, 0), (9, 137, 152, 0), (9, 140, 159, 0), (9, 150, 160, 0), (9, 153, 112, 0), (9, 157, 150, 0), (9, 163, 169, 0), (9, 172, 171, 0), (9, 176, 170, 0), (9, 179, 172, 0), (9, 182, 130, 0), (9, 186, 133, 0), (9, 189, 135, 0), (9, 192, 134, 0), (9, 195, 144, 0), (9, 204, 173, 0), (9, 207, 174, 0), (9, 216, 175, 0), (10, 9, 76, 0), (10, 12, 110, 0), (10, 13, 77, 0), (10, 17, 125, 0), (10, 18, 78, 0), (10, 22, 126, 0), (10, 23, 79, 0), (10, 27, 130, 0), (10, 28, 80, 0), (10, 31, 133, 0), (10, 32, 81, 0), (10, 36, 134, 0), (10, 37, 82, 0), (10, 40, 135, 0), (10, 41, 83, 0), (10, 44, 140, 0), (10, 45, 84, 0), (10, 48, 141, 0), (10, 49, 85, 0), (10, 52, 144, 0), (10, 53, 86, 0), (10, 56, 145, 0), (10, 57, 87, 0), (10, 60, 151, 0), (10, 61, 88, 0), (10, 64, 153, 0), (10, 65, 89, 0), (10, 68, 154, 0), (10, 69, 90, 0), (10, 72, 155, 0), (10, 73, 91, 0), (10, 76, 156, 0), (10, 77, 92, 0), (10, 80, 157, 0), (10, 81, 93, 0), (10, 84, 158, 0), (10, 85, 94, 0), (10, 88, 161, 0), (10, 89, 95, 0), (10, 92, 162, 0), (10, 93, 96, 0), (10, 96, 163, 0), (10, 97, 98, 0), (10, 101, 164, 0), (10, 102, 99, 0), (10, 105, 165, 0), (10, 106, 100, 0), (10, 109, 166, 0), (10, 110, 101, 0), (10, 113, 167, 0), (10, 114, 102, 0), (10, 117, 168, 0), (10, 118, 103, 0), (10, 121, 176, 0), (10, 122, 104, 0), (10, 125, 177, 0)]
/-- fields: class, entry, class of the field, its place, 0 a number, 1 a truth, 2 a cell -/
def xFT : List (Nat × Nat × Nat × Nat × Nat) := [(0, 7, 0, 0, 0), (0, 13, 0, 1, 0), (0, 16, 0, 2, 0), (0, 19, 0, 3, 0), (1, 7, 1, 0, 0), (1, 13, 1, 1, 0), (2, 11, 2, 0, 2), (2, 15, 2, 1, 0), (3, 11, 3, 0, 2), (3, 21, 3, 1, 0), (3, 25, 3, 3, 0), (3, 28, 3, 2, 0), (4, 9, 4, 0, 0), (4, 15, 4, 1, 0), (4, 18, 4, 2, 0), (4, 21, 4, 3, 0), (4, 24, 4, 4, 0), (4, 27, 4, 5, 0), (4, 30, 4, 6, 0), (4, 36, 4, 9, 0), (4, 39, 4, 7, 0), (4, 42, 4, 8, 0), (5, 12, 5, 0, 2), (5, 18, 5, 2, 0), (5, 22, 5, 1, 0), (5, 27, 7, 1, 0), (5, 38, 3, 3, 0), (5, 45, 5, 3, 0), (5, 48, 5, 4, 0), (6, 13, 6, 0, 2), (6, 19, 6, 1, 2), (6, 25, 6, 2, 2), (6, 29, 6, 3, 0), (6, 33, 6, 4, 0), (6, 36, 6, 5, 0), (6, 39, 6, 6, 0), (6, 42, 6, 7, 0), (6, 45, 6, 8, 0), (6, 48, 6, 9, 0), (6, 51, 6, 10, 0), (6, 71, 0, 1, 0), (6, 74, 0, 0, 0), (6, 81, 1, 1, 0), (6, 88, 0, 3, 0), (6, 97, 0, 2, 0), (6, 110, 1, 0, 0), (6, 151, 4, 4, 0), (6, 154, 4, 5, 0), (6, 177, 4, 7, 0), (6, 197, 4, 6, 0), (6, 209, 4, 0, 0), (6, 210, 4, 1, 0), (6, 213, 4, 2, 0), (6, 216, 4, 3, 0), (6, 219, 4, 8, 0), (6, 222, 4, 9, 0), (7, 11, 7, 0, 2), (7, 15, 7, 1, 0), (8, 10, 8, 0, 2), (8, 16, 8, 1, 2), (8, 19, 8, 2, 2), (8, 25, 8, 3, 2), (8, 32, 8, 4, 2), (8, 39, 8, 5, 2), (8, 89, 1, 0, 0), (8, 95, 1, 1, 0), (8, 117, 0, 0, 0), (8, 122, 0, 1, 0), (8, 125, 0, 2, 0), (8, 128, 0, 3, 0), (8, 177, 6, 3, 0), (8, 180, 6, 4, 0), (8, 183, 6, 5, 0), (8, 186, 6, 6, 0), (8, 196, 6, 7, 0), (8, 199, 6, 8, 0), (8, 202, 2, 1, 0), (8, 205, 7, 1, 0), (8, 208, 8, 6, 1), (8, 215, 6, 9, 0), (8, 218, 6, 10, 0), (8, 258, 5, 2, 0), (8, 261, 5, 3, 0), (8, 264, 5, 4, 0), (8, 267, 5, 1, 0), (9, 7, 9, 0, 2), (9, 13, 9, 1, 2), (9, 16, 9, 2, 2), (9, 19, 9, 3, 2), (9, 22, 9, 4, 2), (9, 25, 9, 8, 2), (9, 28, 9, 17, 2), (9, 31, 9, 6, 1), (9, 35, 9, 7, 0), (9, 144, 9, 9, 0), (9, 147, 9, 5, 1), (9, 160, 9, 10, 0), (9, 166, 9, 16, 0), (9, 169, 9, 15, 0), (9, 198, 9, 11, 0), (9, 201, 9, 14, 0), (9, 210, 9, 13, 0), (9, 213, 9, 12, 0)]
/-- Object.<init>: class, entry -/
def xOT : List (Nat × Nat) := [(0, 1), (1, 1), (2, 1), (3, 3), (4, 3), (5, 3), (6, 3), (7, 3), (8, 1), (9, 1)]
/-- Math.max: class, entry -/
def xJT : List (Nat × Nat) := [(6, 91)]
/-- new: class, entry, class made -/
def xNT : List (Nat × Nat × Nat) := [(2, 9, 6), (5, 9, 3), (6, 11, 1), (6, 17, 0), (6, 23, 4), (8, 7, 6), (8, 22, 2), (8, 29, 7), (8, 36, 5), (10, 7, 8), (10, 10, 9)]
/-- anewarray: class, entry, kind -/
def xAT : List (Nat × Nat × Nat) := [(2, 9, 15), (6, 11, 12), (6, 17, 13), (6, 23, 14)]
/-- ldc: class, entry, number -/
def xKT : List (Nat × Nat × Int32) := [(3, 67, -100001), (6, 108, -100001), (6, 109, -100003), (6, 120, -100002), (7, 23, -100001), (7, 24, -100003), (8, 88, -100001), (8, 150, -100004), (8, 173, -100002), (9, 54, -100001), (9, 55, -100003), (9, 65, -100002), (9, 66, -100004)]
def xTC : Nat → u_T
  | 0 => TX0
  | 1 => TX1
  | 2 => TX2
  | 3 => TX3
  | 4 => TX4
  | 5 => TX5
  | 6 => TX6
  | 7 => TX7
  | 8 => TX8
  | _ => TX9
def xNF : Nat → Nat
  | 0 => 4
  | 1 => 2
  | 2 => 2
  | 3 => 4
  | 4 => 10
  | 5 => 5
  | 6 => 11
  | 7 => 2
  | 8 => 7
  | 9 => 18
  | _ => 0
def xTy : Nat → Nat → FieldType
  | 0 => tyX0
  | 1 => tyX1
  | 2 => tyX2
  | 3 => tyX3
  | 4 => tyX4
  | 5 => tyX5
  | 6 => tyX6
  | 7 => tyX7
  | 8 => tyX8
  | _ => tyX9
def xEl : Nat → Nat
  | 12 => 1
  | 13 => 0
  | 14 => 4
  | _ => 6
def xETy : Nat → FieldType
  | 10 => .int
  | 11 => .char
  | k => .object (xCN (xEl k))
def xHost : String := "LentPhrases"
def xNs : Cond → Bool
  | .methodLinkNest _ _ _ _ => true
  | .arrayOver (.object _) => true
  | _ => false
def wsG : List Cond := lw_tbl.filter goodWord
def wsN : List Cond := lw_tbl.filter xNs
def xAt (i : Nat) (w : Cond) : Bool := decide (lw_tbl[i]? = some w) && goodWord w
def xIn (w : Cond) : Prop := w ∈ wsG
theorem xAt_in {i : Nat} {w : Cond} (h : xAt i w = true) : w ∈ wsG := by
  simp only [xAt, Bool.and_eq_true, decide_eq_true_eq] at h
  exact List.mem_filter.mpr ⟨List.mem_of_getElem? h.1, h.2⟩
def xMok (q : xMI) (a b d e : Nat) : Bool :=
  xAt a (.code q.1 q.2.1 q.2.2.1 q.2.2.2.1) && xAt b (.initialized q.1.cls) && decide (q.1.cls = xCN q.2.2.2.2.1) && decide (q.1.cls ≠ "java/lang/invoke/MethodHandle" ∧ q.1.cls ≠ "java/lang/invoke/VarHandle") && plainName q.1.cls && decide ((parseMethodDescriptor q.1.desc).map (fun d => d.parameters.length) = some q.2.2.2.2.2.2) && decide (q.2.2.1 ≤ 16) &&
  (if q.2.2.2.2.2.1 = 0 then xAt d (.instanceMethod q.1) && xAt e (.selects q.1.cls q.1 q.1) && decide (q.2.2.2.2.1 < 10)
   else if q.2.2.2.2.2.1 = 1 then xAt d (.static q.1) else xAt d (.instanceMethod q.1) && decide (q.1.name = "<init>") && decide (q.2.2.2.1 = none))
def xMall (z : List (Nat × Nat × Nat × Nat)) (i : Nat) : Bool := match z with
  | [] => true
  | q :: r => xMok (xM i) q.1 q.2.1 q.2.2.1 q.2.2.2 && xMall r (i + 1)
def xRok (q : Nat × Nat × Nat × Nat) (a : Nat) : Bool := decide (q.2.2.1 < 178) && (if q.2.2.2 = 0 then xAt a (.methodLink (xCN q.1) q.2.1 (xY q.2.2.1)) else decide (lw_tbl[a]? = some (Cond.methodLinkNest (xCN q.1) q.2.1 (xY q.2.2.1) xHost)))
def xFok (q : Nat × Nat × Nat × Nat × Nat) (a : Nat) : Bool := decide (q.2.2.1 < 10) && decide (q.2.2.2.1 < xNF q.2.2.1) && xAt a (.fieldLink (xCN q.1) q.2.1 (xTC q.2.2.1 q.2.2.2.1).1 (xTC q.2.2.1 q.2.2.2.1).2.1 (xTC q.2.2.1 q.2.2.2.1).2.2.1) && decide ((xTC q.2.2.1 q.2.2.2.1).1 = xCN q.2.2.1) &&
  (match q.2.2.2.2, xTy q.2.2.1 q.2.2.2.1 with
   | 0, .int => true
   | 1, .boolean => true
   | 2, .object _ => true
   | 2, .array _ => true
   | _, _ => false)
def xOok (q : Nat × Nat) (a : Nat) : Bool := xAt a (.methodLink (xCN q.1) q.2 Lib.objectInit)
def xNok (q : Nat × Nat × Nat) (a : Nat × Nat × Nat) : Bool := decide (q.2.2 < 10) && xAt a.1 (.classLink (xCN q.1) q.2.1 (xCN q.2.2)) && xAt a.2.1 (.instantiable (xCN q.2.2) (xNF q.2.2)) && xAt a.2.2 (.initialized (xCN q.2.2))
def xAok (q : Nat × Nat × Nat) (a : Nat × Nat) : Bool := decide (12 ≤ q.2.2 ∧ q.2.2 ≤ 15) && xAt a.1 (.classLink (xCN q.1) q.2.1 (xCN (xEl q.2.2))) && decide (lw_tbl[a.2]? = some (.arrayOver (.object (xCN (xEl q.2.2)))))
def xKok (q : Nat × Nat × Int32) (a : Nat) : Bool := xAt a (.constant (xCN q.1) q.2.1 q.2.2)
def xZip {α β : Type} (f : α → β → Bool) : List α → List β → Bool
  | [], _ => true
  | a :: r, b :: s => f a b && xZip f r s
  | _ :: _, [] => false

set_option maxRecDepth 100000 in
theorem xMT_ok0 : xMall [(101, 54, 100, 0), (333, 54, 331, 332), (85, 53, 84, 0), (329, 53, 327, 328), (216, 56, 215, 0), (358, 56, 356, 357), (362, 56, 361, 2), (672, 56, 670, 671), (255, 59, 254, 0), (711, 59, 709, 710), (719, 59, 718, 10), (726, 59, 725, 11), (730, 59, 729, 12), (734, 59, 732, 733), (722, 59, 721, 0), (127, 55, 126, 0), (414, 55, 412, 413), (337, 55, 335, 336), (442, 55, 440, 441), (466, 55, 464, 465), (450, 55, 448, 449), (454, 55, 452, 453), (410, 55, 408, 409), (486, 55, 484, 485), (470, 55, 468, 469), (418, 55, 416, 417), (510, 55, 508, 509), (249, 58, 248, 0), (703, 58, 701, 702), (699, 58, 697, 698)] 0 = true := by decide +kernel
set_option maxRecDepth 100000 in
theorem xMT_ok1 : xMall [(707, 58, 706, 9), (74, 52, 73, 0), (325, 52, 323, 324), (375, 52, 373, 374), (438, 52, 436, 437), (430, 52, 428, 429), (434, 52, 432, 433), (482, 52, 480, 481), (382, 52, 381, 3), (387, 52, 386, 4), (391, 52, 390, 5), (498, 52, 496, 497), (341, 52, 339, 340), (371, 52, 369, 370), (399, 52, 397, 398), (426, 52, 424, 425), (462, 52, 460, 461), (478, 52, 476, 477), (494, 52, 492, 493), (505, 52, 504, 6), (518, 52, 516, 517), (522, 52, 521, 7), (530, 52, 528, 529), (537, 52, 535, 536), (545, 52, 543, 544), (533, 52, 532, 0), (378, 52, 377, 0), (446, 52, 444, 445), (607, 52, 605, 606), (406, 52, 404, 405)] 30 = true := by decide +kernel
set_option maxRecDepth 100000 in
theorem xMT_ok2 : xMall [(590, 52, 588, 589), (555, 52, 553, 554), (580, 52, 578, 579), (559, 52, 557, 558), (563, 52, 561, 562), (567, 52, 565, 566), (571, 52, 569, 570), (647, 52, 645, 646), (621, 52, 619, 620), (629, 52, 627, 628), (633, 52, 631, 632), (637, 52, 635, 636), (233, 57, 232, 0), (680, 57, 678, 679), (691, 57, 689, 690), (715, 57, 713, 714), (66, 51, 65, 0), (317, 51, 315, 316), (367, 51, 365, 366), (395, 51, 393, 394), (422, 51, 420, 421), (458, 51, 456, 457), (474, 51, 472, 473), (490, 51, 488, 489), (514, 51, 512, 513), (526, 51, 524, 525), (541, 51, 539, 540), (549, 51, 547, 548), (575, 51, 573, 574), (585, 51, 583, 584)] 60 = true := by decide +kernel
set_option maxRecDepth 100000 in
theorem xMT_ok3 : xMall [(595, 51, 593, 594), (601, 51, 599, 600), (611, 51, 609, 610), (615, 51, 613, 614), (625, 51, 623, 624), (641, 51, 639, 640), (652, 51, 650, 651), (656, 51, 655, 8), (660, 51, 658, 659), (664, 51, 662, 663), (668, 51, 666, 667), (676, 51, 674, 675), (687, 51, 685, 686), (695, 51, 693, 694), (745, 51, 743, 744), (321, 51, 320, 0), (354, 51, 353, 1), (347, 51, 346, 0), (344, 51, 343, 0), (402, 51, 401, 0), (750, 60, 749, 0), (813, 60, 812, 0), (1011, 60, 1010, 0), (819, 60, 818, 13), (827, 60, 826, 14), (872, 60, 871, 22), (868, 60, 867, 21), (864, 60, 863, 20), (831, 60, 830, 15), (876, 60, 875, 23)] 90 = true := by decide +kernel
set_option maxRecDepth 100000 in
theorem xMT_ok4 : xMall [(847, 60, 846, 17), (852, 60, 851, 18), (880, 60, 879, 24), (896, 60, 895, 27), (904, 60, 903, 28), (810, 60, 808, 809), (823, 60, 821, 822), (839, 60, 838, 0), (843, 60, 842, 16), (856, 60, 855, 19), (836, 60, 834, 835), (884, 60, 883, 25), (888, 60, 887, 26), (860, 60, 858, 859), (892, 60, 890, 891), (900, 60, 898, 899), (924, 60, 923, 32), (916, 60, 915, 30), (920, 60, 919, 31), (912, 60, 911, 29), (908, 60, 906, 907), (928, 60, 926, 927), (940, 60, 939, 34), (936, 60, 935, 33), (932, 60, 930, 931), (944, 60, 942, 943), (952, 60, 951, 35), (956, 60, 955, 36), (960, 60, 959, 37), (964, 60, 963, 38)] 120 = true := by decide +kernel
set_option maxRecDepth 100000 in
theorem xMT_ok5 : xMall [(1015, 60, 1014, 42), (948, 60, 946, 947), (972, 60, 971, 39), (968, 60, 966, 967), (976, 60, 974, 975), (980, 60, 978, 979), (984, 60, 982, 983), (988, 60, 986, 987), (992, 60, 990, 991), (1000, 60, 999, 40), (1004, 60, 1003, 41), (996, 60, 994, 995), (1008, 60, 1006, 1007), (1019, 60, 1017, 1018), (1023, 60, 1021, 1022), (1027, 60, 1025, 1026), (1031, 60, 1029, 1030), (1035, 60, 1033, 1034), (1039, 60, 1037, 1038), (1055, 60, 1054, 45), (1063, 60, 1062, 47), (1059, 60, 1058, 46), (1067, 60, 1066, 48), (1051, 60, 1050, 44), (1071, 60, 1070, 49), (1047, 60, 1046, 43), (1043, 60, 1041, 1042), (1080, 60, 1078, 1079)] 150 = true := by decide +kernel
set_option maxRecDepth 100000 in
theorem xRT_ok0 : xZip xRok ((xRT.drop 0).take 30) ([220, 359, 363, 712, 716, 727, 720, 723, 735, 736, 737, 738, 739, 415, 253, 700, 704, 708, 731, 83, 99, 125, 326, 330, 334, 435, 372, 388, 342, 348] : List (Nat)) = true := by decide +kernel
set_option maxRecDepth 100000 in
theorem xRT_ok1 : xZip xRok ((xRT.drop 30).take 30) ([376, 379, 384, 400, 403, 411, 427, 431, 439, 443, 463, 467, 479, 483, 495, 502, 506, 507, 519, 531, 534, 447, 451, 407, 648, 681, 72, 214, 231, 247] : List (Nat)) = true := by decide +kernel
set_option maxRecDepth 100000 in
theorem xRT_ok2 : xZip xRok ((xRT.drop 60).take 30) ([318, 338, 351, 368, 396, 423, 459, 475, 491, 515, 527, 542, 550, 552, 556, 560, 564, 568, 576, 577, 581, 586, 345, 587, 596, 597, 602, 603, 604, 616] : List (Nat)) = true := by decide +kernel
set_option maxRecDepth 100000 in
theorem xRT_ok3 : xZip xRok ((xRT.drop 90).take 30) ([618, 626, 630, 634, 642, 643, 644, 653, 322, 355, 669, 677, 688, 696, 741, 869, 873, 844, 811, 816, 824, 828, 849, 837, 840, 853, 861, 865, 877, 881] : List (Nat)) = true := by decide +kernel
set_option maxRecDepth 100000 in
theorem xRT_ok4 : xZip xRok ((xRT.drop 120).take 30) ([885, 893, 901, 921, 913, 917, 909, 937, 933, 961, 949, 953, 957, 969, 997, 1001, 1009, 1012, 1052, 1056, 1060, 1064, 1072, 1073, 1074, 1075, 1076, 1048, 1068, 1044] : List (Nat)) = true := by decide +kernel
set_option maxRecDepth 100000 in
theorem xRT_ok5 : xZip xRok ((xRT.drop 150).take 30) ([64, 748, 314, 807, 364, 820, 392, 833, 419, 857, 455, 889, 471, 897, 487, 905, 511, 925, 523, 929, 538, 941, 546, 945, 572, 965, 582, 973, 592, 977] : List (Nat)) = true := by decide +kernel
set_option maxRecDepth 100000 in
theorem xRT_ok6 : xZip xRok ((xRT.drop 180).take 30) ([598, 981, 608, 985, 612, 989, 622, 993, 638, 1005, 649, 1016, 657, 1020, 661, 1024, 665, 1028, 673, 1032, 684, 1036, 692, 1040, 742, 1077] : List (Nat)) = true := by decide +kernel
set_option maxRecDepth 100000 in
theorem xFT_ok0 : xZip xFok ((xFT.drop 0).take 30) ([103, 106, 109, 112, 87, 90, 221, 222, 257, 258, 260, 259, 129, 131, 133, 135, 137, 139, 141, 147, 143, 145, 272, 275, 273, 237, 261, 277, 279, 170] : List (Nat)) = true := by decide +kernel
set_option maxRecDepth 100000 in
theorem xFT_ok1 : xZip xFok ((xFT.drop 30).take 30) ([171, 172, 173, 175, 177, 179, 181, 183, 185, 187, 107, 104, 91, 113, 110, 88, 138, 140, 144, 142, 130, 132, 134, 136, 146, 148, 235, 236, 292, 293] : List (Nat)) = true := by decide +kernel
set_option maxRecDepth 100000 in
theorem xFT_ok2 : xZip xFok ((xFT.drop 60).take 30) ([294, 295, 296, 297, 89, 92, 105, 108, 111, 114, 174, 176, 178, 180, 182, 184, 223, 238, 298, 186, 188, 276, 278, 280, 274, 752, 753, 754, 755, 756] : List (Nat)) = true := by decide +kernel
set_option maxRecDepth 100000 in
theorem xFT_ok3 : xZip xFok ((xFT.drop 90).take 30) ([760, 769, 758, 759, 761, 757, 762, 768, 767, 763, 766, 765, 764] : List (Nat)) = true := by decide +kernel
set_option maxRecDepth 100000 in
theorem xOT_ok0 : xZip xOok ((xOT.drop 0).take 30) ([102, 86, 217, 256, 128, 250, 75, 234, 67, 751] : List (Nat)) = true := by decide +kernel
set_option maxRecDepth 100000 in
theorem xNT_ok0 : xZip xNok ((xNT.drop 0).take 30) ([(218, 71, 52), (251, 252, 59), (76, 82, 53), (78, 98, 54), (80, 124, 55), (70, 71, 52), (212, 213, 56), (229, 230, 57), (245, 246, 58), (62, 63, 51), (746, 747, 60)] : List (Nat × Nat × Nat)) = true := by decide +kernel
set_option maxRecDepth 100000 in
theorem xAT_ok0 : xZip xAok ((xAT.drop 0).take 30) ([(218, 219), (76, 77), (78, 79), (80, 81)] : List (Nat × Nat)) = true := by decide +kernel
set_option maxRecDepth 100000 in
theorem xKT_ok0 : xZip xKok ((xKT.drop 0).take 30) ([740, 349, 350, 383, 682, 683, 551, 591, 617, 814, 815, 832, 848] : List (Nat)) = true := by decide +kernel
def xJok (q : Nat × Nat) (a : Nat) : Bool := xAt a (.methodLink (xCN q.1) q.2 Lib.Math.max.name) && xAt 500 (.static Lib.Math.max.name) && xAt 61 (.initialized "java/lang/Math") && xAt 501 (.code Lib.Math.max.name Lib.Math.max.code 2 (some .int))
set_option maxRecDepth 100000 in
theorem xJT_ok0 : xZip xJok ((xJT.drop 0).take 30) ([499] : List (Nat)) = true := by decide +kernel
def xLL : List (Nat × Nat) := (List.range 10).flatMap fun c => (List.range (xNF c)).map fun k => (c, k)
set_option maxRecDepth 100000 in
theorem xLay_ok : xZip (fun (q : Nat × Nat) (a : Nat) => xAt a (u_lay (xCN q.1) (xTC q.1) q.2)) xLL ([115, 117, 119, 121, 93, 95, 224, 226, 262, 264, 266, 268, 149, 151, 153, 155, 157, 159, 161, 163, 165, 167, 281, 283, 285, 287, 289, 189, 191, 193, 195, 197, 199, 201, 203, 205, 207, 209, 239, 241, 299, 301, 303, 305, 307, 309, 311, 770, 772, 774, 776, 778, 780, 782, 784, 786, 788, 790, 792, 794, 796, 798, 800, 802, 804] : List Nat) = true := by decide +kernel
set_option maxRecDepth 100000 in
theorem xIns_ok : xZip (fun (q : Nat) (a : Nat) => xAt a (.instantiable (xCN q) (xNF q))) (List.range 10) ([98, 82, 213, 252, 124, 246, 71, 230, 63, 747] : List Nat) = true := by decide +kernel
set_option maxRecDepth 100000 in
theorem xObj_ok : (xAt 68 (.instanceMethod Lib.objectInit) && xAt 69 (.code Lib.objectInit ⟨#[0xb1]⟩ 1 none) && xAt 271 (.arrayClass .int) && xAt 244 (.arrayClass .char)) = true := by decide +kernel
theorem xCls (c : Nat) (h : c < 10) : vwCl[c]? = some (xCN c, xTC c, xNF c) := by
  match c, h with
  | 0, _ => rfl
  | 1, _ => rfl
  | 2, _ => rfl
  | 3, _ => rfl
  | 4, _ => rfl
  | 5, _ => rfl
  | 6, _ => rfl
  | 7, _ => rfl
  | 8, _ => rfl
  | 9, _ => rfl
theorem xNm (c : Nat) (h : c < 10) : ∀ a, a < xNF c → ∀ b, b < xNF c → a ≠ b → (xTC c a).2.1 ≠ (xTC c b).2.1 := by
  match c, h with
  | 0, _ => exact nmX0
  | 1, _ => exact nmX1
  | 2, _ => exact nmX2
  | 3, _ => exact nmX3
  | 4, _ => exact nmX4
  | 5, _ => exact nmX5
  | 6, _ => exact nmX6
  | 7, _ => exact nmX7
  | 8, _ => exact nmX8
  | 9, _ => exact nmX9
theorem xTyok (c : Nat) (h : c < 10) : ∀ k, k < xNF c → parseFieldDescriptor (xTC c k).2.2.1 = some (xTy c k) := by
  match c, h with
  | 0, _ => exact tyX0_ok
  | 1, _ => exact tyX1_ok
  | 2, _ => exact tyX2_ok
  | 3, _ => exact tyX3_ok
  | 4, _ => exact tyX4_ok
  | 5, _ => exact tyX5_ok
  | 6, _ => exact tyX6_ok
  | 7, _ => exact tyX7_ok
  | 8, _ => exact tyX8_ok
  | 9, _ => exact tyX9_ok
end
section
/-! A machine of our own, over cells that are functions: what one method does, step by step; a call's answer is given -/
abbrev HC : Type := Nat × Nat × (Nat → Value)
abbrev Wd : Type := Nat × Nat × Nat × (Nat → Option HC)
abbrev xR : Type := Option Value × Wd
abbrev xC : Type := Nat × List (Nat × Value) × List Value × Wd
abbrev xO : Type := Option (xR ⊕ xC)
abbrev xF : Type := Nat → List Value → Wd → Option xR
def lk : List (Nat × Value) → Nat → Option Value
  | [], _ => none
  | (j, v) :: r, i => if j = i then some v else lk r i
def cat2 : Value → Bool
  | .long _ => true
  | .double _ => true
  | _ => false
def ldel : List (Nat × Value) → Nat → List (Nat × Value)
  | [], _ => []
  | (j, u) :: r, i => if j = i then ldel r i else if j + 1 = i ∧ cat2 u = true then ldel r i else (j, u) :: ldel r i
def lset : List (Nat × Value) → Nat → Value → List (Nat × Value)
  | [], i, v => [(i, v)]
  | (j, u) :: r, i, v => if j = i then (i, v) :: ldel r i else if j + 1 = i ∧ cat2 u = true then lset r i v else (j, u) :: lset r i v
def ldel2 : List (Nat × Value) → Nat → List (Nat × Value)
  | [], _ => []
  | (j, u) :: r, i => if j = i then ldel2 r i else if j = i + 1 then ldel2 r i else if j + 1 = i ∧ cat2 u = true then ldel2 r i else (j, u) :: ldel2 r i
def lset2 : List (Nat × Value) → Nat → Value → List (Nat × Value)
  | [], i, v => [(i, v)]
  | (j, u) :: r, i, v => if j = i then (i, v) :: ldel2 r i else if j = i + 1 then lset2 r i v else if j + 1 = i ∧ cat2 u = true then lset2 r i v else (j, u) :: lset2 r i v
def sI (st : List Value) (f : Int32 → List Value → xO) : xO := match st with
  | .int x :: r => f x r
  | _ => none
def sL (st : List Value) (f : Int64 → List Value → xO) : xO := match st with
  | .long x :: r => f x r
  | _ => none
def sA (st : List Value) (f : Nat → List Value → xO) : xO := match st with
  | .ref x :: r => f x r
  | _ => none
def oI (v : Option Value) (f : Int32 → xO) : xO := match v with
  | some (.int x) => f x
  | _ => none
def oL (v : Option Value) (f : Int64 → xO) : xO := match v with
  | some (.long x) => f x
  | _ => none
def oA (v : Option Value) (f : Value → xO) : xO := match v with
  | some (.ref x) => f (.ref x)
  | some .null => f .null
  | _ => none
def sA0 (st : List Value) (f : Value → List Value → xO) : xO := match st with
  | .ref x :: r => f (.ref x) r
  | .null :: r => f .null r
  | _ => none
def nx (pc : Nat) (L : List (Nat × Value)) (st : List Value) (w : Wd) : xO := some (.inr (pc, L, st, w))
def jmp (pc : Nat) (off : Int) (f : Nat → xO) : xO := match (pc : Int) + off with
  | .ofNat t => f t
  | _ => none
def kd (w : Wd) (a : Nat) : Nat := match w.2.2.2 a with
  | some c => c.1
  | none => 999
def gf (w : Wd) (a c k : Nat) : Option Value := match w.2.2.2 a with
  | some (c', _, f) => if c' = c then some (f k) else none
  | none => none
def wup (w : Wd) (a : Nat) (c : HC) : Wd := (w.1, w.2.1, w.2.2.1, fun q => if q = a then some c else w.2.2.2 q)
def pf (w : Wd) (a c k : Nat) (v : Value) : Option Wd := match w.2.2.2 a with
  | some (c', n, f) => if w.1 ≤ a ∧ c' = c then some (wup w a (c', n, updV f k v)) else none
  | none => none
def ain (j : Int32) (n : Nat) : Bool := !(decide (j < 0)) && decide (j.toNatClampNeg < n)
/-- a place of an array whose kind is between lo and hi -/
def ag (w : Wd) (a : Nat) (lo hi : Nat) (j : Int32) : Option Value := match w.2.2.2 a with
  | some (c, n, f) => if lo ≤ c ∧ c ≤ hi ∧ ain j n = true then some (f j.toNatClampNeg) else none
  | none => none
def ap (w : Wd) (a : Nat) (lo hi : Nat) (j : Int32) (v : Value) : Option Wd := match w.2.2.2 a with
  | some (c, n, f) => if w.1 ≤ a ∧ lo ≤ c ∧ c ≤ hi ∧ ain j n = true then some (wup w a (c, n, updV f j.toNatClampNeg v)) else none
  | none => none
def al (w : Wd) (a : Nat) : Option Int32 := match w.2.2.2 a with
  | some (c, n, _) => if 10 ≤ c ∧ c ≤ 16 then some (Int32.ofNat n) else none
  | none => none
/-- a new cell -/
def wnew (w : Wd) (c : HC) : Wd := (w.1, w.2.1 + 1, w.2.2.1 + c.2.1, fun q => if q = w.2.1 then some c else w.2.2.2 q)
def tck (t : Nat) (v : Value) : Bool := match t, v with
  | 0, .int _ => true
  | 1, .int x => decide (x = 0) || decide (x = 1)
  | 2, .ref _ => true
  | _, _ => false
def f2 : List (Nat × Nat × Nat) → Nat → Nat → Option Nat
  | [], _, _ => none
  | (a, b, d) :: r, c, i => if a = c ∧ b = i then some d else f2 r c i
def fM (c i : Nat) : Option (Nat × Nat) := (xRT.find? (fun q => q.1 == c && q.2.1 == i)).map (fun q => q.2.2)
def fF (c i : Nat) : Option (Nat × Nat × Nat) := (xFT.find? (fun q => q.1 == c && q.2.1 == i)).map (fun q => q.2.2)
def fK (c i : Nat) : Option Int32 := (xKT.find? (fun q => q.1 == c && q.2.1 == i)).map (fun q => q.2.2)
def iln : Instr → Nat
  | .bipush _ => 2
  | .iload _ => 2
  | .lload _ => 2
  | .aload _ => 2
  | .istore _ => 2
  | .lstore _ => 2
  | .astore _ => 2
  | .ldc _ => 2
  | .newarray _ => 2
  | .sipush _ => 3
  | .iinc _ _ => 3
  | .ifCond _ _ => 3
  | .if_icmp _ _ => 3
  | .ifnull _ => 3
  | .ifnonnull _ => 3
  | .goto _ => 3
  | .getfield _ => 3
  | .putfield _ => 3
  | .invokevirtual _ => 3
  | .invokespecial _ => 3
  | .invokestatic _ => 3
  | .new _ => 3
  | .anewarray _ => 3
  | _ => 1
def okl (i : Instr) (len : Nat) : Bool := match i with
  | .tableswitch _ _ _ _ => true
  | .lookupswitch _ _ => true
  | i => decide (len = iln i)
def ihold (c : ClassFile.Cond) (x y : Int32) : Bool := match c with
  | .eq => decide (x = y)
  | .ne => !(decide (x = y))
  | .lt => decide (x < y)
  | .ge => decide (y ≤ x)
  | .gt => decide (y < x)
  | .le => decide (x ≤ y)
/-- behind a call -/
def xcall (run : xF) (o : Nat) (args : List Value) (w : Wd) (pc : Nat) (L : List (Nat × Value)) (st : List Value) : xO :=
  if st.length ≤ 4 then match run o args w with
    | some (v, w') => nx (pc + 3) L (v.toList ++ st) w'
    | none => none
  else none
def stp1 (run : xF) (o pc : Nat) (L : List (Nat × Value)) (st : List Value) (w : Wd) (i : Instr) : xO := match i with
  | .aload_n n => oA (lk L n) fun v => nx (pc + 1) L (v :: st) w
  | .aload n => oA (lk L n) fun v => nx (pc + 2) L (v :: st) w
  | .iload_n n => oI (lk L n) fun x => nx (pc + 1) L (.int x :: st) w
  | .iload n => oI (lk L n) fun x => nx (pc + 2) L (.int x :: st) w
  | .lload_n n => oL (lk L n) fun x => nx (pc + 1) L (.long x :: st) w
  | .lload n => oL (lk L n) fun x => nx (pc + 2) L (.long x :: st) w
  | .istore_n n => sI st fun x st => if (n : Nat) < xL o then nx (pc + 1) (lset L n (.int x)) st w else none
  | .istore n => sI st fun x st => if n < xL o then nx (pc + 2) (lset L n (.int x)) st w else none
  | .astore_n n => sA0 st fun v st => if (n : Nat) < xL o then nx (pc + 1) (lset L n v) st w else none
  | .astore n => sA0 st fun v st => if n < xL o then nx (pc + 2) (lset L n v) st w else none
  | .lstore_n n => sL st fun x st => if (n : Nat) + 1 < xL o then nx (pc + 1) (lset2 L n (.long x)) st w else none
  | .lstore n => sL st fun x st => if n + 1 < xL o then nx (pc + 2) (lset2 L n (.long x)) st w else none
  | .iinc n k => oI (lk L n) fun x => if n < xL o then nx (pc + 3) (lset L n (.int (x + Int32.ofInt k))) st w else none
  | .iconst n => nx (pc + 1) L (.int (Int32.ofInt n) :: st) w
  | .bipush n => nx (pc + 2) L (.int (Int8.ofInt n).toInt32 :: st) w
  | .sipush n => nx (pc + 3) L (.int (Int16.ofInt n).toInt32 :: st) w
  | .lconst n => nx (pc + 1) L (.long (Int64.ofNat (n : Nat)) :: st) w
  | .ldc n => match fK (xCl o) n with
    | some x => nx (pc + 2) L (.int x :: st) w
    | none => none
  | .aconst_null => nx (pc + 1) L (.null :: st) w
  | .dup => match st with
    | v :: st => if cat2 v = false then nx (pc + 1) L (v :: v :: st) w else none
    | _ => none
  | .dup2 => match st with
    | v :: u :: st => if cat2 v = false ∧ cat2 u = false then nx (pc + 1) L (v :: u :: v :: u :: st) w else none
    | _ => none
  | .pop => match st with
    | v :: st => if cat2 v = false then nx (pc + 1) L st w else none
    | _ => none
  | .iadd => sI st fun y st => sI st fun x st => nx (pc + 1) L (.int (x + y) :: st) w
  | .isub => sI st fun y st => sI st fun x st => nx (pc + 1) L (.int (x - y) :: st) w
  | .imul => sI st fun y st => sI st fun x st => nx (pc + 1) L (.int (x * y) :: st) w
  | .idiv => sI st fun y st => sI st fun x st => if y = 0 then none else nx (pc + 1) L (.int (x / y) :: st) w
  | .iand => sI st fun y st => sI st fun x st => nx (pc + 1) L (.int (x &&& y) :: st) w
  | .ishr => sI st fun y st => sI st fun x st => nx (pc + 1) L (.int (x >>> (y &&& 31)) :: st) w
  | .ineg => sI st fun x st => nx (pc + 1) L (.int (-x) :: st) w
  | .i2c => sI st fun x st => nx (pc + 1) L (.int (x.toUInt32 % 65536).toInt32 :: st) w
  | .land => sL st fun y st => sL st fun x st => nx (pc + 1) L (.long (x &&& y) :: st) w
  | .lor => sL st fun y st => sL st fun x st => nx (pc + 1) L (.long (x ||| y) :: st) w
  | .lshl => sI st fun y st => sL st fun x st => nx (pc + 1) L (.long (x <<< (y.toInt64 &&& 63)) :: st) w
  | .lshr => sI st fun y st => sL st fun x st => nx (pc + 1) L (.long (x >>> (y.toInt64 &&& 63)) :: st) w
  | .lcmp => sL st fun y st => sL st fun x st => nx (pc + 1) L (.int (if y < x then 1 else if x = y then 0 else -1) :: st) w
  | .ifCond c off => sI st fun x st => jmp pc off fun t => if ihold c x 0 = true then nx t L st w else nx (pc + 3) L st w
  | .if_icmp c off => sI st fun y st => sI st fun x st => jmp pc off fun t => if ihold c x y = true then nx t L st w else nx (pc + 3) L st w
  | .ifnull off => match st with
    | .ref _ :: st => nx (pc + 3) L st w
    | .null :: st => jmp pc off fun t => nx t L st w
    | _ => none
  | .ifnonnull off => match st with
    | .ref _ :: st => jmp pc off fun t => nx t L st w
    | .null :: st => nx (pc + 3) L st w
    | _ => none
  | .goto off => jmp pc off fun t => nx t L st w
  | .tableswitch dflt lo hi offs => sI st fun x st =>
    if x.toInt < lo ∨ hi < x.toInt then jmp pc dflt fun t => nx t L st w else match offs[(x.toInt - lo).toNat]? with
      | some off => jmp pc off fun t => nx t L st w
      | none => none
  | .lookupswitch dflt ps => sI st fun x st =>
    if (ps.toList.zip (ps.toList.drop 1)).all (fun (a, next) => a.1 < next.1) = true then jmp pc (Op.lookupswitch.offset ps.toList dflt x.toInt) fun t => nx t L st w else none
  | .getfield n => match fF (xCl o) n with
    | some (ci, k, _) => sA st fun a st => match gf w a ci k with
      | some v => nx (pc + 3) L (v :: st) w
      | none => none
    | none => none
  | .putfield n => match fF (xCl o) n with
    | some (ci, k, t) => match st with
      | v :: st => sA st fun a st => if tck t v = true ∧ ((xTC ci k).2.2.2 = true → xKd o = 2 ∧ xCl o = ci) then match pf w a ci k v with
        | some w' => nx (pc + 3) L st w'
        | none => none
        else none
      | _ => none
    | none => none
  | .iaload => sI st fun j st => sA st fun a st => match ag w a 10 10 j with
    | some v => nx (pc + 1) L (v :: st) w
    | none => match ag w a 16 16 j with
      | some v => nx (pc + 1) L (v :: st) w
      | none => none
  | .caload => sI st fun j st => sA st fun a st => match ag w a 11 11 j with
    | some v => nx (pc + 1) L (v :: st) w
    | none => none
  | .aaload => sI st fun j st => sA st fun a st => match ag w a 12 15 j with
    | some v => nx (pc + 1) L (v :: st) w
    | none => none
  | .iastore => sI st fun x st => sI st fun j st => sA st fun a st => match ap w a 10 10 j (.int x) with
    | some w' => nx (pc + 1) L st w'
    | none => none
  | .castore => sI st fun x st => sI st fun j st => sA st fun a st => match ap w a 11 11 j (narrow .char (.int x)) with
    | some w' => nx (pc + 1) L st w'
    | none => none
  | .aastore => sA st fun v st => sI st fun j st => sA st fun a st => if kd w v = xEl (kd w a) then match ap w a 12 15 j (.ref v) with
    | some w' => nx (pc + 1) L st w'
    | none => none
    else none
  | .arraylength => sA st fun a st => match al w a with
    | some n => nx (pc + 1) L (.int n :: st) w
    | none => none
  | .new n => match f2 xNT (xCl o) n with
    | some ci => nx (pc + 3) L (.ref w.2.1 :: st) (wnew w (ci, xNF ci, fun k => defaultValue (xTy ci k)))
    | none => none
  | .newarray t => sI st fun n st => if ¬ n < 0 ∧ n.toNatClampNeg ≤ 100000 then
      (if t = .int then nx (pc + 2) L (.ref w.2.1 :: st) (wnew w (10, n.toNatClampNeg, fun _ => .int 0))
      else if t = .char then nx (pc + 2) L (.ref w.2.1 :: st) (wnew w (11, n.toNatClampNeg, fun _ => .int 0)) else none) else none
  | .anewarray i => match f2 xAT (xCl o) i with
    | some k => sI st fun n st => if ¬ n < 0 ∧ n.toNatClampNeg ≤ 100000 then nx (pc + 3) L (.ref w.2.1 :: st) (wnew w (k, n.toNatClampNeg, fun _ => .null)) else none
    | none => none
  | .invokevirtual n => match fM (xCl o) n with
    | some (y, _) => match st.drop (xAr y) with
      | .ref b :: rest => if (st.take (xAr y)).length = xAr y ∧ kd w b = xCl y ∧ xKd y = 0 then xcall run y (.ref b :: (st.take (xAr y)).reverse) w pc L rest else none
      | _ => none
    | none => none
  | .invokestatic n => match fM (xCl o) n with
    | some (y, _) => if (st.take (xAr y)).length = xAr y ∧ xKd y = 1 then xcall run y (st.take (xAr y)).reverse w pc L (st.drop (xAr y)) else none
    | none => if (xCl o, n) ∈ xJT then sI st fun y st => sI st fun x st => if st.length ≤ 4 then nx (pc + 3) L (.int (if x < y then y else x) :: st) w else none else none
  | .invokespecial n => if (xCl o, n) ∈ xOT then sA st fun _ st => if st.length ≤ 4 then nx (pc + 3) L st w else none else match fM (xCl o) n with
    | some (y, _) => match st.drop (xAr y) with
      | .ref b :: rest => if (st.take (xAr y)).length = xAr y ∧ xKd y = 2 then xcall run y (.ref b :: (st.take (xAr y)).reverse) w pc L rest else none
      | _ => none
    | none => none
  | .ireturn => match st with
    | [.int x] => match xRt o with
      | some ty => if narrow ty (.int x) = .int x then some (.inl (some (.int x), w)) else none
      | none => none
    | _ => none
  | .areturn => match st with
    | [.ref a] => match xRt o with
      | some (.object _) => some (.inl (some (.ref a), w))
      | some (.array _) => some (.inl (some (.ref a), w))
      | _ => none
    | [.null] => match xRt o with
      | some (.object _) => some (.inl (some .null, w))
      | some (.array _) => some (.inl (some .null, w))
      | _ => none
    | _ => none
  | .return_ => match st with
    | [] => if xRt o = none then some (.inl (none, w)) else none
    | _ => none
  | _ => none
def stp (run : xF) (o pc : Nat) (L : List (Nat × Value)) (st : List Value) (w : Wd) (i : Instr) (len : Nat) : xO := if okl i len = true then stp1 run o pc L st w i else none
def xst (run : xF) (o : Nat) (c : xC) : xO := match decode (xB o) c.1 with
  | .ok (i, len) => stp run o c.1 c.2.1 c.2.2.1 c.2.2.2 i len
  | .error _ => none
def ex (run : xF) (o : Nat) : Nat → xC → Option xR
  | 0, _ => none
  | n + 1, c => match xst run o c with
    | none => none
    | some (.inl r) => some r
    | some (.inr c') => ex run o n c'
theorem ex_mono {run : xF} {o : Nat} : ∀ (n : Nat) (c : xC) (r : xR), ex run o n c = some r → ex run o (n + 1) c = some r := by
  intro n
  induction n with
  | zero => intro c r h; simp [ex] at h
  | succ n ih =>
    intro c r h
    rw [ex] at h ⊢
    cases hs : xst run o c with
    | none => rw [hs] at h; simp at h
    | some z =>
      rw [hs] at h
      cases z with
      | inl r' => simpa using h
      | inr c' => exact ih c' r h
theorem ex_le {run : xF} {o n k : Nat} {c : xC} {r : xR} (hnk : n ≤ k) (h : ex run o n c = some r) : ex run o k c = some r := by
  induction hnk with
  | refl => exact h
  | step _ ih => exact ex_mono _ _ _ ih
noncomputable def X0 (run : xF) (o : Nat) (c : xC) : Option xR := @dite (Option xR) (∃ (n : Nat) (r : xR), ex run o n c = some r) (Classical.propDecidable _) (fun h => some h.choose_spec.choose) (fun _ => none)
theorem X0_iff {run : xF} {o : Nat} {c : xC} {r : xR} : X0 run o c = some r ↔ ∃ n, ex run o n c = some r := by
  unfold X0
  constructor
  · intro h
    split at h
    next hh =>
      have e := hh.choose_spec.choose_spec
      cases h
      exact ⟨_, e⟩
    next => cases h
  · rintro ⟨n, h⟩
    have hh : ∃ (n : Nat) (r : xR), ex run o n c = some r := ⟨n, r, h⟩
    rw [dif_pos hh]
    have e := hh.choose_spec.choose_spec
    have a := ex_le (Nat.le_max_left n hh.choose) h
    have b := ex_le (Nat.le_max_right n hh.choose) e
    rw [a] at b
    exact b.symm
theorem X0_eq (run : xF) (o : Nat) (c : xC) : X0 run o c = match xst run o c with
    | none => none
    | some (.inl r) => some r
    | some (.inr c') => X0 run o c' := by
  apply Option.ext
  intro r
  rw [X0_iff]
  cases hs : xst run o c with
  | none =>
    constructor
    · rintro ⟨n, h⟩
      cases n with
      | zero => simp [ex] at h
      | succ n => rw [ex, hs] at h; simp at h
    · intro h; cases h
  | some z =>
    cases z with
    | inl r' =>
      constructor
      · rintro ⟨n, h⟩
        cases n with
        | zero => simp [ex] at h
        | succ n => rw [ex, hs] at h; exact h
      · intro h; exact ⟨1, by rw [ex, hs]; exact h⟩
    | inr c' =>
      rw [X0_iff]
      constructor
      · rintro ⟨n, h⟩
        cases n with
        | zero => simp [ex] at h
        | succ n => rw [ex, hs] at h; exact ⟨n, h⟩
      · rintro ⟨n, h⟩; exact ⟨n + 1, by rw [ex, hs]; exact h⟩
/-- a method run at depth d: its calls are of less depth -/
noncomputable def run : Nat → xF
  | 0, _, _, _ => none
  | d + 1, o, args, w => if (lg_sl args).length ≤ xL o then X0 (run d) o (0, lv_args 0 args, [], w) else none
/-- the method o, from pc on, its calls at depth d -/
noncomputable def X (d o pc : Nat) (L : List (Nat × Value)) (st : List Value) (w : Wd) : Option xR := X0 (run d) o (pc, L, st, w)
theorem run_X (d o : Nat) (args : List Value) (w : Wd) (h : (lg_sl args).length ≤ xL o) : run (d + 1) o args w = X d o 0 (lv_args 0 args) [] w := if_pos h
end
section
/-! What the machine does is what our own machine does: the tie of cells -/
def hcell (D : va_G) (cA : Nat → ClassId) (sc : Cell) (a : Nat) (c : HC) (H : Heap) : Prop :=
  (c.1 < 10 ∧ t_OB a (D.1 c.1) (xNF c.1) (D.2 c.1) H c.2.2) ∨ (10 ≤ c.1 ∧ c.1 ≤ 15 ∧ H[a]? = some (arrV (cA c.1) c.2.1 c.2.2)) ∨ (c.1 = 16 ∧ H[a]? = some sc ∧ sc.slots.size = c.2.1 ∧ ∀ j, j < c.2.1 → sc.slots[j]? = some (c.2.2 j))
def hw (D : va_G) (cA : Nat → ClassId) (sc : Cell) (w : Wd) (H : Heap) : Prop := H.size = w.2.1 ∧ ∀ (a : Nat) (c : HC), w.2.2.2 a = some c → hcell D cA sc a c H
def xTys (cA : Nat → ClassId) : List (ClassId × FieldType) := [(cA 10, xETy 10), (cA 11, xETy 11), (cA 12, xETy 12), (cA 13, xETy 13), (cA 14, xETy 14), (cA 15, xETy 15)]
def KK (D : va_G) (cA : Nat → ClassId) (sc : Cell) (U : State) : Prop := va_K D vwCl (xTys cA) U ∧ (∀ w ∈ wsN, w.before #[] U = true) ∧ U.isArrayOf sc .int ∧ sc.vm ≠ .unknown
theorem hcell.kept {D : va_G} {cA : Nat → ClassId} {sc : Cell} {a : Nat} {c : HC} {H H' : Heap} (h : hcell D cA sc a c H) (e : H'[a]? = H[a]?) : hcell D cA sc a c H' := by
  rcases h with ⟨h1, h2⟩ | ⟨h1, h2, h3⟩ | ⟨h1, h2, h3⟩
  · exact Or.inl ⟨h1, h2.kept e⟩
  · exact Or.inr (Or.inl ⟨h1, h2, by rw [e]; exact h3⟩)
  · exact Or.inr (Or.inr ⟨h1, by rw [e]; exact h2, h3⟩)
theorem hcell.lt {D : va_G} {cA : Nat → ClassId} {sc : Cell} {a : Nat} {c : HC} {H : Heap} (h : hcell D cA sc a c H) : a < H.size := by
  rcases h with ⟨h1, cell, h2, -⟩ | ⟨h1, h2, h3⟩ | ⟨h1, h2, h3⟩
  · exact (Array.getElem?_eq_some_iff.mp h2).1
  · exact (Array.getElem?_eq_some_iff.mp h3).1
  · exact (Array.getElem?_eq_some_iff.mp h2).1
theorem hw_up {D : va_G} {cA : Nat → ClassId} {sc : Cell} {w : Wd} {H H' : Heap} {a : Nat} {c : HC} (h : hw D cA sc w H) (hc : hcell D cA sc a c H') (hz : H'.size = H.size) (ho : ∀ q : Nat, q ≠ a → H'[q]? = H[q]?) : hw D cA sc (wup w a c) H' := by
  refine ⟨hz.trans h.1, fun q x hq => ?_⟩
  simp only [wup] at hq
  by_cases e : q = a
  · rw [if_pos e] at hq; cases hq; rw [e]; exact hc
  · rw [if_neg e] at hq; exact (h.2 q x hq).kept (ho q e)
theorem hw_new {D : va_G} {cA : Nat → ClassId} {sc : Cell} {w : Wd} {H H' : Heap} {c : HC} (h : hw D cA sc w H) (hc : hcell D cA sc w.2.1 c H') (hz : H'.size = w.2.1 + 1) (ho : ∀ q : Nat, q < w.2.1 → H'[q]? = H[q]?) : hw D cA sc (wnew w c) H' := by
  refine ⟨hz, fun q x hq => ?_⟩
  simp only [wnew] at hq
  by_cases e : q = w.2.1
  · rw [if_pos e] at hq; cases hq; rw [e]; exact hc
  · rw [if_neg e] at hq; exact (h.2 q x hq).kept (ho q (by have := (h.2 q x hq).lt; rw [h.1] at this; exact this))
theorem xNs_move {s U : State} (hW : s.WarmedH U.vm) {w : Cond} (hw : w ∈ wsN) (h : w.before #[] s = true) : w.before #[] U = true := by
  have hn := (List.mem_filter.mp hw).2
  cases w with
  | methodLinkNest a i x g => exact va_Nw.warmM hW h
  | arrayOver t =>
    cases t with
    | object C => exact va_AO.moved hW.alike h
    | _ => simp [xNs] at hn
  | _ => simp [xNs] at hn
theorem xNs_blind {u U : State} (e : u.vm = U.vm) {w : Cond} (hw : w ∈ wsN) (h : w.before #[] u = true) : w.before #[] U = true := by
  have hn := (List.mem_filter.mp hw).2
  cases w with
  | methodLinkNest a i x g => exact va_Nw.same rfl e h
  | arrayOver t =>
    cases t with
    | object C => exact va_AO.moved (by rw [e]; exact Vm.Alike.refl _) h
    | _ => simp [xNs] at hn
  | _ => simp [xNs] at hn
theorem KK.moved {D : va_G} {cA : Nat → ClassId} {sc : Cell} {s U : State} (hW : s.WarmedH U.vm) (h : KK D cA sc s) : KK D cA sc U := ⟨va_K.moved hW.alike h.1, fun w hw => xNs_move hW hw (h.2.1 w hw), State.isArrayOf_alike hW.alike h.2.2.1, h.2.2.2⟩
theorem KK.blind {D : va_G} {cA : Nat → ClassId} {sc : Cell} {u U : State} (e : u.vm = U.vm) (h : KK D cA sc u) : KK D cA sc U := ⟨va_K.moved (by rw [e]; exact Vm.Alike.refl _) h.1, fun w hw => xNs_blind e hw (h.2.1 w hw), State.isArrayOf_alike (by rw [e]; exact Vm.Alike.refl _) h.2.2.1, h.2.2.2⟩
def mo (w w' : Wd) : Prop := w'.1 = w.1 ∧ w.2.1 ≤ w'.2.1 ∧ w.2.2.1 ≤ w'.2.2.1
theorem mo.rf {w : Wd} : mo w w := ⟨rfl, Nat.le_refl _, Nat.le_refl _⟩
theorem mo.tr {a b c : Wd} (h1 : mo a b) (h2 : mo b c) : mo a c := ⟨h2.1.trans h1.1, Nat.le_trans h1.2.1 h2.2.1, Nat.le_trans h1.2.2 h2.2.2⟩
def xW (o : Nat) : List Cond := Cond.code (xY o) (xB o) (xL o) (xRt o) :: wsG
def rmD (d mc ms : Nat) : Room := { frames := d, cells := mc, slots := ms, locals := 36 * d }
def xQ (D : va_G) (cA : Nat → ClassId) (sc : Cell) (v : Option Value) (w' : Wd) : Array Value → State → Outcome → State → Prop := fun _ _ oc t => oc = .returned v ∧ hw D cA sc w' t.heap
def xP (D : va_G) (cA : Nat → ClassId) (sc : Cell) (w : Wd) : State → Prop := fun U => hw D cA sc w U.heap ∧ KK D cA sc U
def RunMo (f : xF) : Prop := ∀ o args w v w', f o args w = some (v, w') → mo w w'
def RunOK (f : xF) (d : Nat) : Prop := ∀ (l : Launch) (D : va_G) (cA : Nat → ClassId) (sc : Cell) (o : Nat) (args : List Value) (w : Wd) (v : Option Value) (w' : Wd), o < 178 → f o args w = some (v, w') →
  Met l (xY o) (xW o) (rmD d (w'.2.1 - w.2.1) (w'.2.2.1 - w.2.2.1)) (va_Pc args (xP D cA sc w)) (xQ D cA sc v w') (w'.2.1 - w.2.1) (w'.2.2.1 - w.2.2.1) (fun q => w.1 ≤ q)
/-! inversions -/
theorem sI_inv {st : List Value} {f : Int32 → List Value → xO} {z : xR ⊕ xC} (h : sI st f = some z) : ∃ x r, st = .int x :: r ∧ f x r = some z := by
  unfold sI at h
  split at h
  · exact ⟨_, _, rfl, h⟩
  · cases h
theorem sL_inv {st : List Value} {f : Int64 → List Value → xO} {z : xR ⊕ xC} (h : sL st f = some z) : ∃ x r, st = .long x :: r ∧ f x r = some z := by
  unfold sL at h
  split at h
  · exact ⟨_, _, rfl, h⟩
  · cases h
theorem sA_inv {st : List Value} {f : Nat → List Value → xO} {z : xR ⊕ xC} (h : sA st f = some z) : ∃ x r, st = .ref x :: r ∧ f x r = some z := by
  unfold sA at h
  split at h
  · exact ⟨_, _, rfl, h⟩
  · cases h
theorem sA0_inv {st : List Value} {f : Value → List Value → xO} {z : xR ⊕ xC} (h : sA0 st f = some z) : (∃ x r, st = .ref x :: r ∧ f (.ref x) r = some z) ∨ (∃ r, st = .null :: r ∧ f .null r = some z) := by
  unfold sA0 at h
  split at h
  · exact Or.inl ⟨_, _, rfl, h⟩
  · exact Or.inr ⟨_, rfl, h⟩
  · cases h
theorem oI_inv {v : Option Value} {f : Int32 → xO} {z : xR ⊕ xC} (h : oI v f = some z) : ∃ x, v = some (.int x) ∧ f x = some z := by
  unfold oI at h
  split at h
  · exact ⟨_, rfl, h⟩
  · cases h
theorem oL_inv {v : Option Value} {f : Int64 → xO} {z : xR ⊕ xC} (h : oL v f = some z) : ∃ x, v = some (.long x) ∧ f x = some z := by
  unfold oL at h
  split at h
  · exact ⟨_, rfl, h⟩
  · cases h
theorem oA_inv {v : Option Value} {f : Value → xO} {z : xR ⊕ xC} (h : oA v f = some z) : (∃ x, v = some (.ref x) ∧ f (.ref x) = some z) ∨ (v = some .null ∧ f .null = some z) := by
  unfold oA at h
  split at h
  · exact Or.inl ⟨_, rfl, h⟩
  · exact Or.inr ⟨rfl, h⟩
  · cases h
theorem jmp_inv {pc : Nat} {off : Int} {f : Nat → xO} {z : xR ⊕ xC} (h : jmp pc off f = some z) : ∃ t : Nat, (pc : Int) + off = (t : Int) ∧ f t = some z := by
  unfold jmp at h
  split at h
  next t e => exact ⟨t, e, h⟩
  next => cases h
theorem nx_inv {pc : Nat} {L : List (Nat × Value)} {st : List Value} {w : Wd} {c : xC} (h : nx pc L st w = some (.inr c)) : c = (pc, L, st, w) := by
  unfold nx at h
  cases h
  rfl
theorem nx_inl {pc : Nat} {L : List (Nat × Value)} {st : List Value} {w : Wd} {r : xR} (h : nx pc L st w = some (.inl r)) : False := by
  unfold nx at h
  cases h
theorem lk_has {ls : Array Slot} {nL : Nat} {L : List (Nat × Value)} {i : Nat} {v : Value} (h : lv_has ls nL L) (e : lk L i = some v) : ls[i]? = some (.val v) := by
  refine h.2.2 (i, v) ?_
  clear h
  induction L with
  | nil => simp [lk] at e
  | cons q r ih =>
    obtain ⟨j, u⟩ := q
    rw [lk] at e
    split at e
    next hj => cases e; subst hj; exact List.mem_cons_self
    next hj => exact List.mem_cons_of_mem _ (ih e)
theorem cat2_of {v : Value} (h : cat2 v = false) : v.category = 1 := by cases v <;> simp [cat2, Value.category] at h ⊢
theorem cat2_iff (v : Value) : (v.category == 2) = cat2 v := by cases v <;> rfl
theorem ldel_mem {L : List (Nat × Value)} {i : Nat} {q : Nat × Value} (h : q ∈ ldel L i) : q ∈ L.filter (fun q => !(q.1 == i) && !(q.1 + 1 == i && q.2.category == 2)) := by
  induction L with
  | nil => simp [ldel] at h
  | cons x r ih =>
    obtain ⟨j, u⟩ := x
    rw [ldel] at h
    rw [List.filter_cons]
    split at h
    next hj => split <;> first | exact List.mem_cons_of_mem _ (ih h) | exact ih h
    next hj =>
      split at h
      next hj2 => split <;> first | exact List.mem_cons_of_mem _ (ih h) | exact ih h
      next hj2 =>
        have hp : (!((j, u).1 == i) && !((j, u).1 + 1 == i && (j, u).2.category == 2)) = true := by
          rw [cat2_iff]
          simp only [Bool.and_eq_true, Bool.not_eq_true', beq_eq_false_iff_ne, ne_eq, Bool.and_eq_false_iff]
          refine ⟨hj, ?_⟩
          by_cases z : j + 1 = i
          · refine Or.inr ?_
            cases hc : cat2 u with
            | false => rfl
            | true => exact absurd ⟨z, hc⟩ hj2
          · exact Or.inl z
        rw [if_pos hp]
        rcases List.mem_cons.mp h with e | e
        · rw [e]; exact List.mem_cons_self
        · exact List.mem_cons_of_mem _ (ih e)
theorem lset_mem {L : List (Nat × Value)} {i : Nat} {v : Value} {q : Nat × Value} (h : q ∈ lset L i v) : q ∈ (i, v) :: L.filter (fun q => !(q.1 == i) && !(q.1 + 1 == i && q.2.category == 2)) := by
  induction L with
  | nil => simpa [lset] using h
  | cons x r ih =>
    obtain ⟨j, u⟩ := x
    have up : ∀ {q : Nat × Value}, q ∈ (i, v) :: r.filter (fun q => !(q.1 == i) && !(q.1 + 1 == i && q.2.category == 2)) → q ∈ (i, v) :: ((j, u) :: r).filter (fun q => !(q.1 == i) && !(q.1 + 1 == i && q.2.category == 2)) := by
      intro q hq
      rcases List.mem_cons.mp hq with e | e
      · rw [e]; exact List.mem_cons_self
      · refine List.mem_cons_of_mem _ ?_
        rw [List.filter_cons]
        split <;> first | exact List.mem_cons_of_mem _ e | exact e
    rw [lset] at h
    split at h
    next hj =>
      rcases List.mem_cons.mp h with e | e
      · rw [e]; exact List.mem_cons_self
      · exact up (List.mem_cons_of_mem _ (ldel_mem e))
    next hj =>
      split at h
      next hj2 => exact up (ih h)
      next hj2 =>
        rcases List.mem_cons.mp h with e | e
        · rw [e]
          refine List.mem_cons_of_mem _ ?_
          have hp : (!((j, u).1 == i) && !((j, u).1 + 1 == i && (j, u).2.category == 2)) = true := by
            rw [cat2_iff]
            simp only [Bool.and_eq_true, Bool.not_eq_true', beq_eq_false_iff_ne, ne_eq, Bool.and_eq_false_iff]
            refine ⟨hj, ?_⟩
            by_cases z : j + 1 = i
            · refine Or.inr ?_
              cases hc : cat2 u with
              | false => rfl
              | true => exact absurd ⟨z, hc⟩ hj2
            · exact Or.inl z
          rw [List.filter_cons, if_pos hp]
          exact List.mem_cons_self
        · exact up (ih e)
theorem ldel2_mem {L : List (Nat × Value)} {i : Nat} {q : Nat × Value} (h : q ∈ ldel2 L i) : q ∈ L.filter (fun q => !(q.1 == i) && (!(q.1 == i + 1) && !(q.1 + 1 == i && q.2.category == 2))) := by
  induction L with
  | nil => simp [ldel2] at h
  | cons x r ih =>
    obtain ⟨j, u⟩ := x
    rw [ldel2] at h
    rw [List.filter_cons]
    split at h
    next hj => split <;> first | exact List.mem_cons_of_mem _ (ih h) | exact ih h
    next hj =>
      split at h
      next hj2 => split <;> first | exact List.mem_cons_of_mem _ (ih h) | exact ih h
      next hj2 =>
        split at h
        next hj3 => split <;> first | exact List.mem_cons_of_mem _ (ih h) | exact ih h
        next hj3 =>
          have hp : (!((j, u).1 == i) && (!((j, u).1 == i + 1) && !((j, u).1 + 1 == i && (j, u).2.category == 2))) = true := by
            rw [cat2_iff]
            simp only [Bool.and_eq_true, Bool.not_eq_true', beq_eq_false_iff_ne, ne_eq, Bool.and_eq_false_iff]
            refine ⟨hj, hj2, ?_⟩
            by_cases z : j + 1 = i
            · refine Or.inr ?_
              cases hc : cat2 u with
              | false => rfl
              | true => exact absurd ⟨z, hc⟩ hj3
            · exact Or.inl z
          rw [if_pos hp]
          rcases List.mem_cons.mp h with e | e
          · rw [e]; exact List.mem_cons_self
          · exact List.mem_cons_of_mem _ (ih e)
theorem lset2_mem {L : List (Nat × Value)} {i : Nat} {v : Value} {q : Nat × Value} (h : q ∈ lset2 L i v) : q ∈ (i, v) :: L.filter (fun q => !(q.1 == i) && (!(q.1 == i + 1) && !(q.1 + 1 == i && q.2.category == 2))) := by
  induction L with
  | nil => simpa [lset2] using h
  | cons x r ih =>
    obtain ⟨j, u⟩ := x
    have up : ∀ {q : Nat × Value}, q ∈ (i, v) :: r.filter (fun q => !(q.1 == i) && (!(q.1 == i + 1) && !(q.1 + 1 == i && q.2.category == 2))) → q ∈ (i, v) :: ((j, u) :: r).filter (fun q => !(q.1 == i) && (!(q.1 == i + 1) && !(q.1 + 1 == i && q.2.category == 2))) := by
      intro q hq
      rcases List.mem_cons.mp hq with e | e
      · rw [e]; exact List.mem_cons_self
      · refine List.mem_cons_of_mem _ ?_
        rw [List.filter_cons]
        split <;> first | exact List.mem_cons_of_mem _ e | exact e
    rw [lset2] at h
    split at h
    next hj =>
      rcases List.mem_cons.mp h with e | e
      · rw [e]; exact List.mem_cons_self
      · exact up (List.mem_cons_of_mem _ (ldel2_mem e))
    next hj =>
      split at h
      next hj2 => exact up (ih h)
      next hj2 =>
        split at h
        next hj3 => exact up (ih h)
        next hj3 =>
          rcases List.mem_cons.mp h with e | e
          · rw [e]
            refine List.mem_cons_of_mem _ ?_
            have hp : (!((j, u).1 == i) && (!((j, u).1 == i + 1) && !((j, u).1 + 1 == i && (j, u).2.category == 2))) = true := by
              rw [cat2_iff]
              simp only [Bool.and_eq_true, Bool.not_eq_true', beq_eq_false_iff_ne, ne_eq, Bool.and_eq_false_iff]
              refine ⟨hj, hj2, ?_⟩
              by_cases z : j + 1 = i
              · refine Or.inr ?_
                cases hc : cat2 u with
                | false => rfl
                | true => exact absurd ⟨z, hc⟩ hj3
              · exact Or.inl z
            rw [List.filter_cons, if_pos hp]
            exact List.mem_cons_self
          · exact up (ih e)
theorem lset_has {ls : Array Slot} {nL : Nat} {L : List (Nat × Value)} {i : Nat} {v : Value} (h : lv_has ls nL ((i, v) :: L.filter (fun q => !(q.1 == i) && !(q.1 + 1 == i && q.2.category == 2)))) : lv_has ls nL (lset L i v) := ⟨h.1, h.2.1, fun q hq => h.2.2 q (lset_mem hq)⟩
theorem lset2_has {ls : Array Slot} {nL : Nat} {L : List (Nat × Value)} {i : Nat} {v : Value} (h : lv_has ls nL ((i, v) :: L.filter (fun q => !(q.1 == i) && (!(q.1 == i + 1) && !(q.1 + 1 == i && q.2.category == 2))))) : lv_has ls nL (lset2 L i v) := ⟨h.1, h.2.1, fun q hq => h.2.2 q (lset2_mem hq)⟩
theorem rest_sum : ∀ (st : List Value), (st.map fun v => v.category).sum ≤ 2 * st.length := by
  intro st
  induction st with
  | nil => simp
  | cons v st ih =>
    simp only [List.map_cons, List.sum_cons, List.length_cons]
    have : v.category ≤ 2 := by cases v <;> simp [Value.category]
    omega
end
section
/-! what the tables say of an entry -/
theorem xZip_drop {α β : Type} {g : α → β → Bool} : ∀ {l : List α} {z : List β}, xZip g l z = true → ∀ a ∈ l, ∃ b, g a b = true
  | [], _, _, a, h => by cases h
  | a :: r, b :: s, h, x, hx => by
    simp only [xZip, Bool.and_eq_true] at h
    rcases List.mem_cons.mp hx with e | e
    · exact ⟨b, by rw [e]; exact h.1⟩
    · exact xZip_drop h.2 x e
  | _ :: _, [], h, _, _ => by simp [xZip] at h
theorem xChunk {α : Type} {P : α → Prop} {l : List α} (k : Nat) (h1 : ∀ a ∈ l.take k, P a) (h2 : ∀ a ∈ l.drop k, P a) : ∀ a ∈ l, P a := by
  intro a ha
  rw [← List.take_append_drop k l] at ha
  rcases List.mem_append.mp ha with h | h
  · exact h1 a h
  · exact h2 a h
theorem xDd {α : Type} {P : α → Prop} {l : List α} (k n : Nat) (h1 : ∀ a ∈ (l.drop k).take n, P a) (h2 : ∀ a ∈ l.drop (k + n), P a) : ∀ a ∈ l.drop k, P a :=
  xChunk n h1 (by rw [List.drop_drop]; exact h2)
theorem xRT_all : ∀ q ∈ xRT, ∃ b : Nat, xRok q b = true := by
  have h : ∀ q ∈ xRT.drop 0, ∃ b : Nat, xRok q b = true := by
    refine xDd 0 30 (fun q hq => xZip_drop xRT_ok0 q hq) ?_
    refine xDd 30 30 (fun q hq => xZip_drop xRT_ok1 q hq) ?_
    refine xDd 60 30 (fun q hq => xZip_drop xRT_ok2 q hq) ?_
    refine xDd 90 30 (fun q hq => xZip_drop xRT_ok3 q hq) ?_
    refine xDd 120 30 (fun q hq => xZip_drop xRT_ok4 q hq) ?_
    refine xDd 150 30 (fun q hq => xZip_drop xRT_ok5 q hq) ?_
    refine xDd 180 30 (fun q hq => xZip_drop xRT_ok6 q hq) ?_
    intro q hq
    have : xRT.drop (180 + 30) = [] := by decide +kernel
    rw [this] at hq
    cases hq
  exact h
theorem xFT_all : ∀ q ∈ xFT, ∃ b : Nat, xFok q b = true := by
  have h : ∀ q ∈ xFT.drop 0, ∃ b : Nat, xFok q b = true := by
    refine xDd 0 30 (fun q hq => xZip_drop xFT_ok0 q hq) ?_
    refine xDd 30 30 (fun q hq => xZip_drop xFT_ok1 q hq) ?_
    refine xDd 60 30 (fun q hq => xZip_drop xFT_ok2 q hq) ?_
    refine xDd 90 30 (fun q hq => xZip_drop xFT_ok3 q hq) ?_
    intro q hq
    have : xFT.drop (90 + 30) = [] := by decide +kernel
    rw [this] at hq
    cases hq
  exact h
theorem xOT_all : ∀ q ∈ xOT, ∃ b : Nat, xOok q b = true := by
  have h : ∀ q ∈ xOT.drop 0, ∃ b : Nat, xOok q b = true := by
    refine xDd 0 30 (fun q hq => xZip_drop xOT_ok0 q hq) ?_
    intro q hq
    have : xOT.drop (0 + 30) = [] := by decide +kernel
    rw [this] at hq
    cases hq
  exact h
theorem xNT_all : ∀ q ∈ xNT, ∃ b : Nat × Nat × Nat, xNok q b = true := by
  have h : ∀ q ∈ xNT.drop 0, ∃ b : Nat × Nat × Nat, xNok q b = true := by
    refine xDd 0 30 (fun q hq => xZip_drop xNT_ok0 q hq) ?_
    intro q hq
    have : xNT.drop (0 + 30) = [] := by decide +kernel
    rw [this] at hq
    cases hq
  exact h
theorem xAT_all : ∀ q ∈ xAT, ∃ b : Nat × Nat, xAok q b = true := by
  have h : ∀ q ∈ xAT.drop 0, ∃ b : Nat × Nat, xAok q b = true := by
    refine xDd 0 30 (fun q hq => xZip_drop xAT_ok0 q hq) ?_
    intro q hq
    have : xAT.drop (0 + 30) = [] := by decide +kernel
    rw [this] at hq
    cases hq
  exact h
theorem xKT_all : ∀ q ∈ xKT, ∃ b : Nat, xKok q b = true := by
  have h : ∀ q ∈ xKT.drop 0, ∃ b : Nat, xKok q b = true := by
    refine xDd 0 30 (fun q hq => xZip_drop xKT_ok0 q hq) ?_
    intro q hq
    have : xKT.drop (0 + 30) = [] := by decide +kernel
    rw [this] at hq
    cases hq
  exact h
theorem xJT_all : ∀ q ∈ xJT, ∃ b : Nat, xJok q b = true := by
  have h : ∀ q ∈ xJT.drop 0, ∃ b : Nat, xJok q b = true := by
    refine xDd 0 30 (fun q hq => xZip_drop xJT_ok0 q hq) ?_
    intro q hq
    have : xJT.drop (0 + 30) = [] := by decide +kernel
    rw [this] at hq
    cases hq
  exact h
theorem xMall_get : ∀ {z : List (Nat × Nat × Nat × Nat)} {i : Nat}, xMall z i = true → ∀ j, j < z.length → ∃ a b d e, xMok (xM (i + j)) a b d e = true
  | [], _, _, j, h => by simp at h
  | q :: r, i, h, j, hj => by
    simp only [xMall, Bool.and_eq_true] at h
    cases j with
    | zero => exact ⟨_, _, _, _, h.1⟩
    | succ j =>
      have := xMall_get h.2 j (by simpa using hj)
      rw [show i + (j + 1) = i + 1 + j by omega]
      exact this
theorem xM_all (o : Nat) (ho : o < 178) : ∃ a b d e, xMok (xM o) a b d e = true := by
  by_cases h0 : o < 30
  · have := xMall_get xMT_ok0 (o - 0) (by show o - 0 < 30; omega)
    rwa [show 0 + (o - 0) = o by omega] at this
  by_cases h30 : o < 60
  · have := xMall_get xMT_ok1 (o - 30) (by show o - 30 < 30; omega)
    rwa [show 30 + (o - 30) = o by omega] at this
  by_cases h60 : o < 90
  · have := xMall_get xMT_ok2 (o - 60) (by show o - 60 < 30; omega)
    rwa [show 60 + (o - 60) = o by omega] at this
  by_cases h90 : o < 120
  · have := xMall_get xMT_ok3 (o - 90) (by show o - 90 < 30; omega)
    rwa [show 90 + (o - 90) = o by omega] at this
  by_cases h120 : o < 150
  · have := xMall_get xMT_ok4 (o - 120) (by show o - 120 < 30; omega)
    rwa [show 120 + (o - 120) = o by omega] at this
  · have := xMall_get xMT_ok5 (o - 150) (by show o - 150 < 28; omega)
    rwa [show 150 + (o - 150) = o by omega] at this
theorem xFind {α : Type} {l : List α} {p : α → Bool} {a : α} (h : l.find? p = some a) : a ∈ l ∧ p a = true := ⟨List.mem_of_find?_eq_some h, List.find?_some h⟩
theorem fK_ok {c i : Nat} {x : Int32} (h : fK c i = some x) : Cond.constant (xCN c) i x ∈ wsG := by
  unfold fK at h
  obtain ⟨q, hq, e⟩ := Option.map_eq_some_iff.mp h
  obtain ⟨h1, h2⟩ := xFind hq
  simp only [Bool.and_eq_true, beq_iff_eq] at h2
  obtain ⟨b, hb⟩ := xKT_all q h1
  have := xAt_in hb
  rw [h2.1, h2.2, e] at this
  exact this
/-! A step of our machine is a step of the machine: instruction by instruction -/
def Cx (p : Program) (s : State) (m : MethodId) (args : Array Value) (meth : Method) (c : Code) (D : va_G) (cA : Nat → ClassId) (sc : Cell) (o : Nat) : Prop :=
  p.tables.exec = Jvm.exec ∧ c.code = xB o ∧ c.maxLocals = xL o ∧ s.vm.findClass (xCN (xCl o)) = some m.cls ∧ (∀ w ∈ wsG, w.before args s = true) ∧ KK D cA sc s ∧ (xKd o = 2 → meth.name = "<init>")
def GG (D : va_G) (cA : Nat → ClassId) (sc : Cell) (o bz bu : Nat) (w : Wd) (L : List (Nat × Value)) (H : Heap) (locs : List Loc) (cells slots : Nat) (ls : Array Slot) : Prop :=
  hw D cA sc w H ∧ lv_has ls (xL o) L ∧ (∀ q ∈ locs, w.1 ≤ q.base) ∧ cells + bz = w.2.1 ∧ slots + bu = w.2.2.1
def StOK (p : Program) (l : Launch) (e : Env) (R : Room) (s : State) (m : MethodId) (args : Array Value) (below : List Frame) (meth : Method) (c : Code) (Q : State → Prop) (D : va_G) (cA : Nat → ClassId) (sc : Cell) (f : xF) (o bz bu : Nat) (i : Instr) : Prop :=
  ∀ (pc : Nat) (L : List (Nat × Value)) (st : List Value) (w : Wd) (c' : xC) (len : Nat), decode (xB o) pc = .ok (i, len) → okl i len = true → stp1 f o pc L st w i = some (.inr c') →
    mo w c'.2.2.2 ∧ ∀ (H : Heap) (locs : List Loc) (cells slots : Nat) (ls : Array Slot), GG D cA sc o bz bu w L H locs cells slots ls → c'.2.2.2.2.1 ≤ R.cells + bz → c'.2.2.2.2.2.1 ≤ R.slots + bu →
      (∀ (H' : Heap) (locs' : List Loc) (cells' slots' : Nat) (ls' : Array Slot), GG D cA sc o bz bu c'.2.2.2 c'.2.1 H' locs' cells' slots' ls' → W p l e R s m args below meth c H' locs' cells' slots' Q (F0 m c'.1 ls' c'.2.2.1)) →
      W p l e R s m args below meth c H locs cells slots Q (F0 m pc ls st)
section SND
variable {p : Program} {l : Launch} {e : Env} {R : Room} {s : State} {m : MethodId} {args : Array Value} {below : List Frame} {meth : Method} {c : Code} {Q : State → Prop} {D : va_G} {cA : Nat → ClassId} {sc : Cell} {f : xF} {o bz bu : Nat}
theorem GG.ls {w : Wd} {L L' : List (Nat × Value)} {H : Heap} {locs : List Loc} {cells slots : Nat} {ls ls' : Array Slot} (G : GG D cA sc o bz bu w L H locs cells slots ls) (h : lv_has ls' (xL o) L') : GG D cA sc o bz bu w L' H locs cells slots ls' := ⟨G.1, h, G.2.2⟩
theorem so_aload_n (C : Cx p s m args meth c D cA sc o) (n : Fin 4) : StOK p l e R s m args below meth c Q D cA sc f o bz bu (.aload_n n) := by
  intro pc L st w c' len hd hk h
  obtain ⟨hx, hb, hml, hown, hts, hKK, hin⟩ := C
  dsimp only [stp1] at h
  dsimp only [okl] at hk
  replace hk := of_decide_eq_true hk
  dsimp only [iln] at hk
  subst hk
  rcases oA_inv h with ⟨x, hv, h⟩ | ⟨hv, h⟩
  · obtain rfl := nx_inv h
    exact ⟨mo.rf, fun H locs cells slots ls G h1 h2 kk => lv_aload_n hx hb hd rfl (lk_has G.2.1 hv) (kk H locs cells slots ls G)⟩
  · obtain rfl := nx_inv h
    exact ⟨mo.rf, fun H locs cells slots ls G h1 h2 kk => lv_aload_nN hx hb hd rfl (lk_has G.2.1 hv) (kk H locs cells slots ls G)⟩
theorem so_aload (C : Cx p s m args meth c D cA sc o) (n : Nat) : StOK p l e R s m args below meth c Q D cA sc f o bz bu (.aload n) := by
  intro pc L st w c' len hd hk h
  obtain ⟨hx, hb, hml, hown, hts, hKK, hin⟩ := C
  dsimp only [stp1] at h
  dsimp only [okl] at hk
  replace hk := of_decide_eq_true hk
  dsimp only [iln] at hk
  subst hk
  rcases oA_inv h with ⟨x, hv, h⟩ | ⟨hv, h⟩
  · obtain rfl := nx_inv h
    exact ⟨mo.rf, fun H locs cells slots ls G h1 h2 kk => lv_aload hx hb hd (lk_has G.2.1 hv) (kk H locs cells slots ls G)⟩
  · obtain rfl := nx_inv h
    exact ⟨mo.rf, fun H locs cells slots ls G h1 h2 kk => lv_aloadN hx hb hd (lk_has G.2.1 hv) (kk H locs cells slots ls G)⟩
theorem so_iload_n (C : Cx p s m args meth c D cA sc o) (n : Fin 4) : StOK p l e R s m args below meth c Q D cA sc f o bz bu (.iload_n n) := by
  intro pc L st w c' len hd hk h
  obtain ⟨hx, hb, hml, hown, hts, hKK, hin⟩ := C
  dsimp only [stp1] at h
  dsimp only [okl] at hk
  replace hk := of_decide_eq_true hk
  dsimp only [iln] at hk
  subst hk
  obtain ⟨x, hv, h⟩ := oI_inv h
  obtain rfl := nx_inv h
  refine ⟨mo.rf, fun H locs cells slots ls G h1 h2 kk => ?_⟩
  exact lv_iload_n hx hb hd rfl (lk_has G.2.1 hv) (kk H locs cells slots ls G)
theorem so_iload (C : Cx p s m args meth c D cA sc o) (n : Nat) : StOK p l e R s m args below meth c Q D cA sc f o bz bu (.iload n) := by
  intro pc L st w c' len hd hk h
  obtain ⟨hx, hb, hml, hown, hts, hKK, hin⟩ := C
  dsimp only [stp1] at h
  dsimp only [okl] at hk
  replace hk := of_decide_eq_true hk
  dsimp only [iln] at hk
  subst hk
  obtain ⟨x, hv, h⟩ := oI_inv h
  obtain rfl := nx_inv h
  refine ⟨mo.rf, fun H locs cells slots ls G h1 h2 kk => ?_⟩
  exact lv_iload hx hb hd (lk_has G.2.1 hv) (kk H locs cells slots ls G)
theorem so_lload_n (C : Cx p s m args meth c D cA sc o) (n : Fin 4) : StOK p l e R s m args below meth c Q D cA sc f o bz bu (.lload_n n) := by
  intro pc L st w c' len hd hk h
  obtain ⟨hx, hb, hml, hown, hts, hKK, hin⟩ := C
  dsimp only [stp1] at h
  dsimp only [okl] at hk
  replace hk := of_decide_eq_true hk
  dsimp only [iln] at hk
  subst hk
  obtain ⟨x, hv, h⟩ := oL_inv h
  obtain rfl := nx_inv h
  refine ⟨mo.rf, fun H locs cells slots ls G h1 h2 kk => ?_⟩
  exact lv_lload_n hx hb hd rfl (lk_has G.2.1 hv) (kk H locs cells slots ls G)
theorem so_lload (C : Cx p s m args meth c D cA sc o) (n : Nat) : StOK p l e R s m args below meth c Q D cA sc f o bz bu (.lload n) := by
  intro pc L st w c' len hd hk h
  obtain ⟨hx, hb, hml, hown, hts, hKK, hin⟩ := C
  dsimp only [stp1] at h
  dsimp only [okl] at hk
  replace hk := of_decide_eq_true hk
  dsimp only [iln] at hk
  subst hk
  obtain ⟨x, hv, h⟩ := oL_inv h
  obtain rfl := nx_inv h
  refine ⟨mo.rf, fun H locs cells slots ls G h1 h2 kk => ?_⟩
  exact lv_lload hx hb hd (lk_has G.2.1 hv) (kk H locs cells slots ls G)
theorem so_istore_n (C : Cx p s m args meth c D cA sc o) (n : Fin 4) : StOK p l e R s m args below meth c Q D cA sc f o bz bu (.istore_n n) := by
  intro pc L st w c' len hd hk h
  obtain ⟨hx, hb, hml, hown, hts, hKK, hin⟩ := C
  dsimp only [stp1] at h
  dsimp only [okl] at hk
  replace hk := of_decide_eq_true hk
  dsimp only [iln] at hk
  subst hk
  obtain ⟨x, r, e1, h9⟩ := sI_inv h
  clear h
  subst e1
  have h := h9
  clear h9
  split at h
  next hn =>
    obtain rfl := nx_inv h
    exact ⟨mo.rf, fun H locs cells slots ls G h1 h2 kk => lv_istore_n hx hb hd rfl G.2.1 hn rfl (fun ls' hl => kk H locs cells slots ls' (G.ls (lset_has hl)))⟩
  next => cases h
theorem so_istore (C : Cx p s m args meth c D cA sc o) (n : Nat) : StOK p l e R s m args below meth c Q D cA sc f o bz bu (.istore n) := by
  intro pc L st w c' len hd hk h
  obtain ⟨hx, hb, hml, hown, hts, hKK, hin⟩ := C
  dsimp only [stp1] at h
  dsimp only [okl] at hk
  replace hk := of_decide_eq_true hk
  dsimp only [iln] at hk
  subst hk
  obtain ⟨x, r, e1, h9⟩ := sI_inv h
  clear h
  subst e1
  have h := h9
  clear h9
  split at h
  next hn =>
    obtain rfl := nx_inv h
    exact ⟨mo.rf, fun H locs cells slots ls G h1 h2 kk => lv_istore hx hb hd G.2.1 hn rfl (fun ls' hl => kk H locs cells slots ls' (G.ls (lset_has hl)))⟩
  next => cases h
theorem so_lstore_n (C : Cx p s m args meth c D cA sc o) (n : Fin 4) : StOK p l e R s m args below meth c Q D cA sc f o bz bu (.lstore_n n) := by
  intro pc L st w c' len hd hk h
  obtain ⟨hx, hb, hml, hown, hts, hKK, hin⟩ := C
  dsimp only [stp1] at h
  dsimp only [okl] at hk
  replace hk := of_decide_eq_true hk
  dsimp only [iln] at hk
  subst hk
  obtain ⟨x, r, e1, h9⟩ := sL_inv h
  clear h
  subst e1
  have h := h9
  clear h9
  split at h
  next hn =>
    obtain rfl := nx_inv h
    exact ⟨mo.rf, fun H locs cells slots ls G h1 h2 kk => lv_lstore_n hx hb hd rfl G.2.1 hn rfl (fun ls' hl => kk H locs cells slots ls' (G.ls (lset2_has hl)))⟩
  next => cases h
theorem so_lstore (C : Cx p s m args meth c D cA sc o) (n : Nat) : StOK p l e R s m args below meth c Q D cA sc f o bz bu (.lstore n) := by
  intro pc L st w c' len hd hk h
  obtain ⟨hx, hb, hml, hown, hts, hKK, hin⟩ := C
  dsimp only [stp1] at h
  dsimp only [okl] at hk
  replace hk := of_decide_eq_true hk
  dsimp only [iln] at hk
  subst hk
  obtain ⟨x, r, e1, h9⟩ := sL_inv h
  clear h
  subst e1
  have h := h9
  clear h9
  split at h
  next hn =>
    obtain rfl := nx_inv h
    exact ⟨mo.rf, fun H locs cells slots ls G h1 h2 kk => lv_lstore hx hb hd G.2.1 hn rfl (fun ls' hl => kk H locs cells slots ls' (G.ls (lset2_has hl)))⟩
  next => cases h
theorem so_astore_n (C : Cx p s m args meth c D cA sc o) (n : Fin 4) : StOK p l e R s m args below meth c Q D cA sc f o bz bu (.astore_n n) := by
  intro pc L st w c' len hd hk h
  obtain ⟨hx, hb, hml, hown, hts, hKK, hin⟩ := C
  dsimp only [stp1] at h
  dsimp only [okl] at hk
  replace hk := of_decide_eq_true hk
  dsimp only [iln] at hk
  subst hk
  rcases sA0_inv h with ⟨x, r, rfl, h⟩ | ⟨r, rfl, h⟩
  · split at h
    next hn =>
      obtain rfl := nx_inv h
      exact ⟨mo.rf, fun H locs cells slots ls G h1 h2 kk => lv_astore_n hx hb hd rfl G.2.1 hn rfl (fun ls' hl => kk H locs cells slots ls' (G.ls (lset_has hl)))⟩
    next => cases h
  · split at h
    next hn =>
      obtain rfl := nx_inv h
      exact ⟨mo.rf, fun H locs cells slots ls G h1 h2 kk => lv_astore_nN hx hb hd rfl G.2.1 hn rfl (fun ls' hl => kk H locs cells slots ls' (G.ls (lset_has hl)))⟩
    next => cases h
theorem so_astore (C : Cx p s m args meth c D cA sc o) (n : Nat) : StOK p l e R s m args below meth c Q D cA sc f o bz bu (.astore n) := by
  intro pc L st w c' len hd hk h
  obtain ⟨hx, hb, hml, hown, hts, hKK, hin⟩ := C
  dsimp only [stp1] at h
  dsimp only [okl] at hk
  replace hk := of_decide_eq_true hk
  dsimp only [iln] at hk
  subst hk
  rcases sA0_inv h with ⟨x, r, rfl, h⟩ | ⟨r, rfl, h⟩
  · split at h
    next hn =>
      obtain rfl := nx_inv h
      exact ⟨mo.rf, fun H locs cells slots ls G h1 h2 kk => lv_astore hx hb hd G.2.1 hn rfl (fun ls' hl => kk H locs cells slots ls' (G.ls (lset_has hl)))⟩
    next => cases h
  · split at h
    next hn =>
      obtain rfl := nx_inv h
      exact ⟨mo.rf, fun H locs cells slots ls G h1 h2 kk => lv_astoreN hx hb hd G.2.1 hn rfl (fun ls' hl => kk H locs cells slots ls' (G.ls (lset_has hl)))⟩
    next => cases h
theorem lk_idx : ∀ {L : List (Nat × Value)} {i : Nat} {v : Value}, lk L i = some v → ∃ k : Nat, L[k]? = some (i, v)
  | [], i, v, h => by simp [lk] at h
  | (j, u) :: r, i, v, h => by
    rw [lk] at h
    split at h
    next hj => cases h; subst hj; exact ⟨0, rfl⟩
    next hj => obtain ⟨k, hk⟩ := lk_idx h; exact ⟨k + 1, hk⟩
theorem so_iinc (C : Cx p s m args meth c D cA sc o) (n : Nat) (k : Int) : StOK p l e R s m args below meth c Q D cA sc f o bz bu (.iinc n k) := by
  intro pc L st w c' len hd hk h
  obtain ⟨hx, hb, hml, hown, hts, hKK, hin⟩ := C
  dsimp only [stp1] at h
  dsimp only [okl] at hk
  replace hk := of_decide_eq_true hk
  dsimp only [iln] at hk
  subst hk
  obtain ⟨x, hv, h⟩ := oI_inv h
  split at h
  next hn =>
    obtain rfl := nx_inv h
    obtain ⟨k0, hk0⟩ := lk_idx hv
    exact ⟨mo.rf, fun H locs cells slots ls G h1 h2 kk => lv_iinc hx hb hd G.2.1 hk0 rfl hn rfl (fun ls' hl => kk H locs cells slots ls' (G.ls (lset_has hl)))⟩
  next => cases h
theorem so_iconst (C : Cx p s m args meth c D cA sc o) (n : Int) : StOK p l e R s m args below meth c Q D cA sc f o bz bu (.iconst n) := by
  intro pc L st w c' len hd hk h
  obtain ⟨hx, hb, hml, hown, hts, hKK, hin⟩ := C
  dsimp only [stp1] at h
  dsimp only [okl] at hk
  replace hk := of_decide_eq_true hk
  dsimp only [iln] at hk
  subst hk
  obtain rfl := nx_inv h
  refine ⟨mo.rf, fun H locs cells slots ls G h1 h2 kk => ?_⟩
  exact lv_iconst hx hb hd rfl (kk H locs cells slots ls G)
theorem so_bipush (C : Cx p s m args meth c D cA sc o) (n : Int) : StOK p l e R s m args below meth c Q D cA sc f o bz bu (.bipush n) := by
  intro pc L st w c' len hd hk h
  obtain ⟨hx, hb, hml, hown, hts, hKK, hin⟩ := C
  dsimp only [stp1] at h
  dsimp only [okl] at hk
  replace hk := of_decide_eq_true hk
  dsimp only [iln] at hk
  subst hk
  obtain rfl := nx_inv h
  refine ⟨mo.rf, fun H locs cells slots ls G h1 h2 kk => ?_⟩
  exact lv_bipush hx hb hd rfl (kk H locs cells slots ls G)
theorem so_sipush (C : Cx p s m args meth c D cA sc o) (n : Int) : StOK p l e R s m args below meth c Q D cA sc f o bz bu (.sipush n) := by
  intro pc L st w c' len hd hk h
  obtain ⟨hx, hb, hml, hown, hts, hKK, hin⟩ := C
  dsimp only [stp1] at h
  dsimp only [okl] at hk
  replace hk := of_decide_eq_true hk
  dsimp only [iln] at hk
  subst hk
  obtain rfl := nx_inv h
  refine ⟨mo.rf, fun H locs cells slots ls G h1 h2 kk => ?_⟩
  exact lv_sipush hx hb hd rfl (kk H locs cells slots ls G)
theorem so_lconst (C : Cx p s m args meth c D cA sc o) (n : Fin 2) : StOK p l e R s m args below meth c Q D cA sc f o bz bu (.lconst n) := by
  intro pc L st w c' len hd hk h
  obtain ⟨hx, hb, hml, hown, hts, hKK, hin⟩ := C
  dsimp only [stp1] at h
  dsimp only [okl] at hk
  replace hk := of_decide_eq_true hk
  dsimp only [iln] at hk
  subst hk
  obtain rfl := nx_inv h
  refine ⟨mo.rf, fun H locs cells slots ls G h1 h2 kk => ?_⟩
  exact lv_lconst hx hb hd rfl (kk H locs cells slots ls G)
theorem so_aconst_null (C : Cx p s m args meth c D cA sc o) : StOK p l e R s m args below meth c Q D cA sc f o bz bu .aconst_null := by
  intro pc L st w c' len hd hk h
  obtain ⟨hx, hb, hml, hown, hts, hKK, hin⟩ := C
  dsimp only [stp1] at h
  dsimp only [okl] at hk
  replace hk := of_decide_eq_true hk
  dsimp only [iln] at hk
  subst hk
  obtain rfl := nx_inv h
  refine ⟨mo.rf, fun H locs cells slots ls G h1 h2 kk => ?_⟩
  exact lv_null hx hb hd (kk H locs cells slots ls G)
theorem so_ldc (C : Cx p s m args meth c D cA sc o) (n : Nat) : StOK p l e R s m args below meth c Q D cA sc f o bz bu (.ldc n) := by
  intro pc L st w c' len hd hk h
  obtain ⟨hx, hb, hml, hown, hts, hKK, hin⟩ := C
  dsimp only [stp1] at h
  dsimp only [okl] at hk
  replace hk := of_decide_eq_true hk
  dsimp only [iln] at hk
  subst hk
  cases hf : fK (xCl o) n with
  | none => rw [hf] at h; cases h
  | some x =>
    rw [hf] at h
    obtain rfl := nx_inv h
    exact ⟨mo.rf, fun H locs cells slots ls G h1 h2 kk => lv_ldc hx hb hown (hts _ (fK_ok hf)) hd (kk H locs cells slots ls G)⟩
theorem so_dup (C : Cx p s m args meth c D cA sc o) : StOK p l e R s m args below meth c Q D cA sc f o bz bu .dup := by
  intro pc L st w c' len hd hk h
  obtain ⟨hx, hb, hml, hown, hts, hKK, hin⟩ := C
  dsimp only [stp1] at h
  dsimp only [okl] at hk
  replace hk := of_decide_eq_true hk
  dsimp only [iln] at hk
  subst hk
  cases st with
  | nil => cases h
  | cons v st =>
    dsimp only [stp1] at h
    split at h
    next hc =>
      obtain rfl := nx_inv h
      exact ⟨mo.rf, fun H locs cells slots ls G h1 h2 kk => lv_dup hx hb hd (cat2_of hc) (kk H locs cells slots ls G)⟩
    next => cases h
theorem so_pop (C : Cx p s m args meth c D cA sc o) : StOK p l e R s m args below meth c Q D cA sc f o bz bu .pop := by
  intro pc L st w c' len hd hk h
  obtain ⟨hx, hb, hml, hown, hts, hKK, hin⟩ := C
  dsimp only [stp1] at h
  dsimp only [okl] at hk
  replace hk := of_decide_eq_true hk
  dsimp only [iln] at hk
  subst hk
  cases st with
  | nil => cases h
  | cons v st =>
    dsimp only [stp1] at h
    split at h
    next hc =>
      obtain rfl := nx_inv h
      exact ⟨mo.rf, fun H locs cells slots ls G h1 h2 kk => lv_pop hx hb hd (cat2_of hc) (kk H locs cells slots ls G)⟩
    next => cases h
theorem so_dup2 (C : Cx p s m args meth c D cA sc o) : StOK p l e R s m args below meth c Q D cA sc f o bz bu .dup2 := by
  intro pc L st w c' len hd hk h
  obtain ⟨hx, hb, hml, hown, hts, hKK, hin⟩ := C
  dsimp only [stp1] at h
  dsimp only [okl] at hk
  replace hk := of_decide_eq_true hk
  dsimp only [iln] at hk
  subst hk
  cases st with
  | nil => cases h
  | cons v st =>
    cases st with
    | nil => cases h
    | cons u st =>
      dsimp only at h
      split at h
      next hc =>
        obtain rfl := nx_inv h
        exact ⟨mo.rf, fun H locs cells slots ls G h1 h2 kk => lv_dup2_11 hx hb hd (cat2_of hc.1) (cat2_of hc.2) (kk H locs cells slots ls G)⟩
      next => cases h
theorem so_iadd (C : Cx p s m args meth c D cA sc o) : StOK p l e R s m args below meth c Q D cA sc f o bz bu .iadd := by
  intro pc L st w c' len hd hk h
  obtain ⟨hx, hb, hml, hown, hts, hKK, hin⟩ := C
  dsimp only [stp1] at h
  dsimp only [okl] at hk
  replace hk := of_decide_eq_true hk
  dsimp only [iln] at hk
  subst hk
  obtain ⟨y, r, e1, h9⟩ := sI_inv h
  clear h
  subst e1
  have h := h9
  clear h9
  obtain ⟨x, r, e1, h9⟩ := sI_inv h
  clear h
  subst e1
  have h := h9
  clear h9
  obtain rfl := nx_inv h
  refine ⟨mo.rf, fun H locs cells slots ls G h1 h2 kk => ?_⟩
  exact lv_iadd hx hb hd (kk H locs cells slots ls G)
theorem so_isub (C : Cx p s m args meth c D cA sc o) : StOK p l e R s m args below meth c Q D cA sc f o bz bu .isub := by
  intro pc L st w c' len hd hk h
  obtain ⟨hx, hb, hml, hown, hts, hKK, hin⟩ := C
  dsimp only [stp1] at h
  dsimp only [okl] at hk
  replace hk := of_decide_eq_true hk
  dsimp only [iln] at hk
  subst hk
  obtain ⟨y, r, e1, h9⟩ := sI_inv h
  clear h
  subst e1
  have h := h9
  clear h9
  obtain ⟨x, r, e1, h9⟩ := sI_inv h
  clear h
  subst e1
  have h := h9
  clear h9
  obtain rfl := nx_inv h
  refine ⟨mo.rf, fun H locs cells slots ls G h1 h2 kk => ?_⟩
  exact lv_isub hx hb hd (kk H locs cells slots ls G)
theorem so_imul (C : Cx p s m args meth c D cA sc o) : StOK p l e R s m args below meth c Q D cA sc f o bz bu .imul := by
  intro pc L st w c' len hd hk h
  obtain ⟨hx, hb, hml, hown, hts, hKK, hin⟩ := C
  dsimp only [stp1] at h
  dsimp only [okl] at hk
  replace hk := of_decide_eq_true hk
  dsimp only [iln] at hk
  subst hk
  obtain ⟨y, r, e1, h9⟩ := sI_inv h
  clear h
  subst e1
  have h := h9
  clear h9
  obtain ⟨x, r, e1, h9⟩ := sI_inv h
  clear h
  subst e1
  have h := h9
  clear h9
  obtain rfl := nx_inv h
  refine ⟨mo.rf, fun H locs cells slots ls G h1 h2 kk => ?_⟩
  exact lv_imul hx hb hd (kk H locs cells slots ls G)
theorem so_iand (C : Cx p s m args meth c D cA sc o) : StOK p l e R s m args below meth c Q D cA sc f o bz bu .iand := by
  intro pc L st w c' len hd hk h
  obtain ⟨hx, hb, hml, hown, hts, hKK, hin⟩ := C
  dsimp only [stp1] at h
  dsimp only [okl] at hk
  replace hk := of_decide_eq_true hk
  dsimp only [iln] at hk
  subst hk
  obtain ⟨y, r, e1, h9⟩ := sI_inv h
  clear h
  subst e1
  have h := h9
  clear h9
  obtain ⟨x, r, e1, h9⟩ := sI_inv h
  clear h
  subst e1
  have h := h9
  clear h9
  obtain rfl := nx_inv h
  refine ⟨mo.rf, fun H locs cells slots ls G h1 h2 kk => ?_⟩
  exact lv_iand hx hb hd (kk H locs cells slots ls G)
theorem so_ishr (C : Cx p s m args meth c D cA sc o) : StOK p l e R s m args below meth c Q D cA sc f o bz bu .ishr := by
  intro pc L st w c' len hd hk h
  obtain ⟨hx, hb, hml, hown, hts, hKK, hin⟩ := C
  dsimp only [stp1] at h
  dsimp only [okl] at hk
  replace hk := of_decide_eq_true hk
  dsimp only [iln] at hk
  subst hk
  obtain ⟨y, r, e1, h9⟩ := sI_inv h
  clear h
  subst e1
  have h := h9
  clear h9
  obtain ⟨x, r, e1, h9⟩ := sI_inv h
  clear h
  subst e1
  have h := h9
  clear h9
  obtain rfl := nx_inv h
  refine ⟨mo.rf, fun H locs cells slots ls G h1 h2 kk => ?_⟩
  exact lv_ishr hx hb hd (kk H locs cells slots ls G)
theorem so_land (C : Cx p s m args meth c D cA sc o) : StOK p l e R s m args below meth c Q D cA sc f o bz bu .land := by
  intro pc L st w c' len hd hk h
  obtain ⟨hx, hb, hml, hown, hts, hKK, hin⟩ := C
  dsimp only [stp1] at h
  dsimp only [okl] at hk
  replace hk := of_decide_eq_true hk
  dsimp only [iln] at hk
  subst hk
  obtain ⟨y, r, e1, h9⟩ := sL_inv h
  clear h
  subst e1
  have h := h9
  clear h9
  obtain ⟨x, r, e1, h9⟩ := sL_inv h
  clear h
  subst e1
  have h := h9
  clear h9
  obtain rfl := nx_inv h
  refine ⟨mo.rf, fun H locs cells slots ls G h1 h2 kk => ?_⟩
  exact lv_land hx hb hd (kk H locs cells slots ls G)
theorem so_lor (C : Cx p s m args meth c D cA sc o) : StOK p l e R s m args below meth c Q D cA sc f o bz bu .lor := by
  intro pc L st w c' len hd hk h
  obtain ⟨hx, hb, hml, hown, hts, hKK, hin⟩ := C
  dsimp only [stp1] at h
  dsimp only [okl] at hk
  replace hk := of_decide_eq_true hk
  dsimp only [iln] at hk
  subst hk
  obtain ⟨y, r, e1, h9⟩ := sL_inv h
  clear h
  subst e1
  have h := h9
  clear h9
  obtain ⟨x, r, e1, h9⟩ := sL_inv h
  clear h
  subst e1
  have h := h9
  clear h9
  obtain rfl := nx_inv h
  refine ⟨mo.rf, fun H locs cells slots ls G h1 h2 kk => ?_⟩
  exact lv_lor hx hb hd (kk H locs cells slots ls G)
theorem so_lshl (C : Cx p s m args meth c D cA sc o) : StOK p l e R s m args below meth c Q D cA sc f o bz bu .lshl := by
  intro pc L st w c' len hd hk h
  obtain ⟨hx, hb, hml, hown, hts, hKK, hin⟩ := C
  dsimp only [stp1] at h
  dsimp only [okl] at hk
  replace hk := of_decide_eq_true hk
  dsimp only [iln] at hk
  subst hk
  obtain ⟨y, r, e1, h9⟩ := sI_inv h
  clear h
  subst e1
  have h := h9
  clear h9
  obtain ⟨x, r, e1, h9⟩ := sL_inv h
  clear h
  subst e1
  have h := h9
  clear h9
  obtain rfl := nx_inv h
  refine ⟨mo.rf, fun H locs cells slots ls G h1 h2 kk => ?_⟩
  exact lv_lshl hx hb hd rfl (kk H locs cells slots ls G)
theorem so_lshr (C : Cx p s m args meth c D cA sc o) : StOK p l e R s m args below meth c Q D cA sc f o bz bu .lshr := by
  intro pc L st w c' len hd hk h
  obtain ⟨hx, hb, hml, hown, hts, hKK, hin⟩ := C
  dsimp only [stp1] at h
  dsimp only [okl] at hk
  replace hk := of_decide_eq_true hk
  dsimp only [iln] at hk
  subst hk
  obtain ⟨y, r, e1, h9⟩ := sI_inv h
  clear h
  subst e1
  have h := h9
  clear h9
  obtain ⟨x, r, e1, h9⟩ := sL_inv h
  clear h
  subst e1
  have h := h9
  clear h9
  obtain rfl := nx_inv h
  refine ⟨mo.rf, fun H locs cells slots ls G h1 h2 kk => ?_⟩
  exact lv_lshr hx hb hd rfl (kk H locs cells slots ls G)
theorem so_lcmp (C : Cx p s m args meth c D cA sc o) : StOK p l e R s m args below meth c Q D cA sc f o bz bu .lcmp := by
  intro pc L st w c' len hd hk h
  obtain ⟨hx, hb, hml, hown, hts, hKK, hin⟩ := C
  dsimp only [stp1] at h
  dsimp only [okl] at hk
  replace hk := of_decide_eq_true hk
  dsimp only [iln] at hk
  subst hk
  obtain ⟨y, r, e1, h9⟩ := sL_inv h
  clear h
  subst e1
  have h := h9
  clear h9
  obtain ⟨x, r, e1, h9⟩ := sL_inv h
  clear h
  subst e1
  have h := h9
  clear h9
  obtain rfl := nx_inv h
  refine ⟨mo.rf, fun H locs cells slots ls G h1 h2 kk => ?_⟩
  exact W.lcmp hx hb hd (kk H locs cells slots ls G)
theorem so_idiv (C : Cx p s m args meth c D cA sc o) : StOK p l e R s m args below meth c Q D cA sc f o bz bu .idiv := by
  intro pc L st w c' len hd hk h
  obtain ⟨hx, hb, hml, hown, hts, hKK, hin⟩ := C
  dsimp only [stp1] at h
  dsimp only [okl] at hk
  replace hk := of_decide_eq_true hk
  dsimp only [iln] at hk
  subst hk
  obtain ⟨y, r, e1, h9⟩ := sI_inv h
  clear h
  subst e1
  have h := h9
  clear h9
  obtain ⟨x, r, e1, h9⟩ := sI_inv h
  clear h
  subst e1
  have h := h9
  clear h9
  split at h
  next => cases h
  next hy =>
    obtain rfl := nx_inv h
    exact ⟨mo.rf, fun H locs cells slots ls G h1 h2 kk => lv_idiv hx hb hd hy (kk H locs cells slots ls G)⟩
theorem so_ineg (C : Cx p s m args meth c D cA sc o) : StOK p l e R s m args below meth c Q D cA sc f o bz bu .ineg := by
  intro pc L st w c' len hd hk h
  obtain ⟨hx, hb, hml, hown, hts, hKK, hin⟩ := C
  dsimp only [stp1] at h
  dsimp only [okl] at hk
  replace hk := of_decide_eq_true hk
  dsimp only [iln] at hk
  subst hk
  obtain ⟨x, r, e1, h9⟩ := sI_inv h
  clear h
  subst e1
  have h := h9
  clear h9
  obtain rfl := nx_inv h
  refine ⟨mo.rf, fun H locs cells slots ls G h1 h2 kk => ?_⟩
  exact lv_ineg hx hb hd (kk H locs cells slots ls G)
theorem so_i2c (C : Cx p s m args meth c D cA sc o) : StOK p l e R s m args below meth c Q D cA sc f o bz bu .i2c := by
  intro pc L st w c' len hd hk h
  obtain ⟨hx, hb, hml, hown, hts, hKK, hin⟩ := C
  dsimp only [stp1] at h
  dsimp only [okl] at hk
  replace hk := of_decide_eq_true hk
  dsimp only [iln] at hk
  subst hk
  obtain ⟨x, r, e1, h9⟩ := sI_inv h
  clear h
  subst e1
  have h := h9
  clear h9
  obtain rfl := nx_inv h
  refine ⟨mo.rf, fun H locs cells slots ls G h1 h2 kk => ?_⟩
  exact lv_i2c hx hb hd rfl (kk H locs cells slots ls G)
theorem so_ifCond (C : Cx p s m args meth c D cA sc o) (q : ClassFile.Cond) (off : Int) : StOK p l e R s m args below meth c Q D cA sc f o bz bu (.ifCond q off) := by
  intro pc L st w c' len hd hk h
  obtain ⟨hx, hb, hml, hown, hts, hKK, hin⟩ := C
  dsimp only [stp1] at h
  dsimp only [okl] at hk
  replace hk := of_decide_eq_true hk
  dsimp only [iln] at hk
  subst hk
  obtain ⟨x, r, e1, h9⟩ := sI_inv h
  clear h
  subst e1
  have h := h9
  clear h9
  obtain ⟨t, et, h⟩ := jmp_inv h
  cases q
  · by_cases hc : x = 0
    · rw [if_pos (by simpa [ihold] using hc)] at h
      obtain rfl := nx_inv h
      exact ⟨mo.rf, fun H locs cells slots ls G h1 h2 kk => lv_if_eq hx hb hd et (fun _ => kk H locs cells slots ls G) (fun n => absurd hc n)⟩
    · rw [if_neg (by simpa [ihold] using hc)] at h
      obtain rfl := nx_inv h
      exact ⟨mo.rf, fun H locs cells slots ls G h1 h2 kk => lv_if_eq hx hb hd et (fun n => absurd n hc) (fun _ => kk H locs cells slots ls G)⟩
  · by_cases hc : ¬ x = 0
    · rw [if_pos (by simpa [ihold] using hc)] at h
      obtain rfl := nx_inv h
      exact ⟨mo.rf, fun H locs cells slots ls G h1 h2 kk => lv_if_ne hx hb hd et (fun _ => kk H locs cells slots ls G) (fun n => absurd n hc)⟩
    · rw [if_neg (by simpa [ihold] using hc)] at h
      obtain rfl := nx_inv h
      exact ⟨mo.rf, fun H locs cells slots ls G h1 h2 kk => lv_if_ne hx hb hd et (fun n => absurd n hc) (fun _ => kk H locs cells slots ls G)⟩
  · by_cases hc : x < 0
    · rw [if_pos (by simpa [ihold] using hc)] at h
      obtain rfl := nx_inv h
      exact ⟨mo.rf, fun H locs cells slots ls G h1 h2 kk => lv_if_lt hx hb hd et (fun _ => kk H locs cells slots ls G) (fun n => absurd hc n)⟩
    · rw [if_neg (by simpa [ihold] using hc)] at h
      obtain rfl := nx_inv h
      exact ⟨mo.rf, fun H locs cells slots ls G h1 h2 kk => lv_if_lt hx hb hd et (fun n => absurd n hc) (fun _ => kk H locs cells slots ls G)⟩
  · by_cases hc : 0 ≤ x
    · rw [if_pos (by simpa [ihold] using hc)] at h
      obtain rfl := nx_inv h
      exact ⟨mo.rf, fun H locs cells slots ls G h1 h2 kk => lv_if_ge hx hb hd et (fun _ => kk H locs cells slots ls G) (fun n => absurd hc n)⟩
    · rw [if_neg (by simpa [ihold] using hc)] at h
      obtain rfl := nx_inv h
      exact ⟨mo.rf, fun H locs cells slots ls G h1 h2 kk => lv_if_ge hx hb hd et (fun n => absurd n hc) (fun _ => kk H locs cells slots ls G)⟩
  · by_cases hc : 0 < x
    · rw [if_pos (by simpa [ihold] using hc)] at h
      obtain rfl := nx_inv h
      exact ⟨mo.rf, fun H locs cells slots ls G h1 h2 kk => lv_if_gt hx hb hd et (fun _ => kk H locs cells slots ls G) (fun n => absurd hc n)⟩
    · rw [if_neg (by simpa [ihold] using hc)] at h
      obtain rfl := nx_inv h
      exact ⟨mo.rf, fun H locs cells slots ls G h1 h2 kk => lv_if_gt hx hb hd et (fun n => absurd n hc) (fun _ => kk H locs cells slots ls G)⟩
  · by_cases hc : x ≤ 0
    · rw [if_pos (by simpa [ihold] using hc)] at h
      obtain rfl := nx_inv h
      exact ⟨mo.rf, fun H locs cells slots ls G h1 h2 kk => lv_if_le hx hb hd et (fun _ => kk H locs cells slots ls G) (fun n => absurd hc n)⟩
    · rw [if_neg (by simpa [ihold] using hc)] at h
      obtain rfl := nx_inv h
      exact ⟨mo.rf, fun H locs cells slots ls G h1 h2 kk => lv_if_le hx hb hd et (fun n => absurd n hc) (fun _ => kk H locs cells slots ls G)⟩
theorem so_if_icmp (C : Cx p s m args meth c D cA sc o) (q : ClassFile.Cond) (off : Int) : StOK p l e R s m args below meth c Q D cA sc f o bz bu (.if_icmp q off) := by
  intro pc L st w c' len hd hk h
  obtain ⟨hx, hb, hml, hown, hts, hKK, hin⟩ := C
  dsimp only [stp1] at h
  dsimp only [okl] at hk
  replace hk := of_decide_eq_true hk
  dsimp only [iln] at hk
  subst hk
  obtain ⟨y, r, e1, h9⟩ := sI_inv h
  clear h
  subst e1
  have h := h9
  clear h9
  obtain ⟨x, r, e1, h9⟩ := sI_inv h
  clear h
  subst e1
  have h := h9
  clear h9
  obtain ⟨t, et, h⟩ := jmp_inv h
  cases q
  · by_cases hc : x = y
    · rw [if_pos (by simpa [ihold] using hc)] at h
      obtain rfl := nx_inv h
      exact ⟨mo.rf, fun H locs cells slots ls G h1 h2 kk => lv_icmp_eq hx hb hd et (fun _ => kk H locs cells slots ls G) (fun n => absurd hc n)⟩
    · rw [if_neg (by simpa [ihold] using hc)] at h
      obtain rfl := nx_inv h
      exact ⟨mo.rf, fun H locs cells slots ls G h1 h2 kk => lv_icmp_eq hx hb hd et (fun n => absurd n hc) (fun _ => kk H locs cells slots ls G)⟩
  · by_cases hc : ¬ x = y
    · rw [if_pos (by simpa [ihold] using hc)] at h
      obtain rfl := nx_inv h
      exact ⟨mo.rf, fun H locs cells slots ls G h1 h2 kk => lv_icmp_ne hx hb hd et (fun _ => kk H locs cells slots ls G) (fun n => absurd n hc)⟩
    · rw [if_neg (by simpa [ihold] using hc)] at h
      obtain rfl := nx_inv h
      exact ⟨mo.rf, fun H locs cells slots ls G h1 h2 kk => lv_icmp_ne hx hb hd et (fun n => absurd n hc) (fun _ => kk H locs cells slots ls G)⟩
  · by_cases hc : x < y
    · rw [if_pos (by simpa [ihold] using hc)] at h
      obtain rfl := nx_inv h
      exact ⟨mo.rf, fun H locs cells slots ls G h1 h2 kk => lv_icmp_lt hx hb hd et (fun _ => kk H locs cells slots ls G) (fun n => absurd hc n)⟩
    · rw [if_neg (by simpa [ihold] using hc)] at h
      obtain rfl := nx_inv h
      exact ⟨mo.rf, fun H locs cells slots ls G h1 h2 kk => lv_icmp_lt hx hb hd et (fun n => absurd n hc) (fun _ => kk H locs cells slots ls G)⟩
  · by_cases hc : y ≤ x
    · rw [if_pos (by simpa [ihold] using hc)] at h
      obtain rfl := nx_inv h
      exact ⟨mo.rf, fun H locs cells slots ls G h1 h2 kk => lv_icmp_ge hx hb hd et (fun _ => kk H locs cells slots ls G) (fun n => absurd hc n)⟩
    · rw [if_neg (by simpa [ihold] using hc)] at h
      obtain rfl := nx_inv h
      exact ⟨mo.rf, fun H locs cells slots ls G h1 h2 kk => lv_icmp_ge hx hb hd et (fun n => absurd n hc) (fun _ => kk H locs cells slots ls G)⟩
  · by_cases hc : y < x
    · rw [if_pos (by simpa [ihold] using hc)] at h
      obtain rfl := nx_inv h
      exact ⟨mo.rf, fun H locs cells slots ls G h1 h2 kk => lv_icmp_gt hx hb hd et (fun _ => kk H locs cells slots ls G) (fun n => absurd hc n)⟩
    · rw [if_neg (by simpa [ihold] using hc)] at h
      obtain rfl := nx_inv h
      exact ⟨mo.rf, fun H locs cells slots ls G h1 h2 kk => lv_icmp_gt hx hb hd et (fun n => absurd n hc) (fun _ => kk H locs cells slots ls G)⟩
  · by_cases hc : x ≤ y
    · rw [if_pos (by simpa [ihold] using hc)] at h
      obtain rfl := nx_inv h
      exact ⟨mo.rf, fun H locs cells slots ls G h1 h2 kk => lv_icmp_le hx hb hd et (fun _ => kk H locs cells slots ls G) (fun n => absurd hc n)⟩
    · rw [if_neg (by simpa [ihold] using hc)] at h
      obtain rfl := nx_inv h
      exact ⟨mo.rf, fun H locs cells slots ls G h1 h2 kk => lv_icmp_le hx hb hd et (fun n => absurd n hc) (fun _ => kk H locs cells slots ls G)⟩
theorem so_ifnull (C : Cx p s m args meth c D cA sc o) (off : Int) : StOK p l e R s m args below meth c Q D cA sc f o bz bu (.ifnull off) := by
  intro pc L st w c' len hd hk h
  obtain ⟨hx, hb, hml, hown, hts, hKK, hin⟩ := C
  dsimp only [stp1] at h
  dsimp only [okl] at hk
  replace hk := of_decide_eq_true hk
  dsimp only [iln] at hk
  subst hk
  match st, h with
  | [], h => cases h
  | .ref a :: st, h =>
    obtain rfl := nx_inv h
    exact ⟨mo.rf, fun H locs cells slots ls G h1 h2 kk => lv_ifnull hx hb hd (kk H locs cells slots ls G)⟩
  | .null :: st, h =>
    obtain ⟨t, et, h⟩ := jmp_inv h
    obtain rfl := nx_inv h
    exact ⟨mo.rf, fun H locs cells slots ls G h1 h2 kk => lv_ifnullN hx hb hd et (kk H locs cells slots ls G)⟩
  | .int _ :: st, h => cases h
  | .long _ :: st, h => cases h
  | .float _ :: st, h => cases h
  | .double _ :: st, h => cases h
  | .retAddr _ :: st, h => cases h
theorem so_ifnonnull (C : Cx p s m args meth c D cA sc o) (off : Int) : StOK p l e R s m args below meth c Q D cA sc f o bz bu (.ifnonnull off) := by
  intro pc L st w c' len hd hk h
  obtain ⟨hx, hb, hml, hown, hts, hKK, hin⟩ := C
  dsimp only [stp1] at h
  dsimp only [okl] at hk
  replace hk := of_decide_eq_true hk
  dsimp only [iln] at hk
  subst hk
  match st, h with
  | [], h => cases h
  | .ref a :: st, h =>
    obtain ⟨t, et, h⟩ := jmp_inv h
    obtain rfl := nx_inv h
    exact ⟨mo.rf, fun H locs cells slots ls G h1 h2 kk => lv_ifnonnull hx hb hd et (kk H locs cells slots ls G)⟩
  | .null :: st, h =>
    obtain rfl := nx_inv h
    exact ⟨mo.rf, fun H locs cells slots ls G h1 h2 kk => lv_ifnonnullN hx hb hd (kk H locs cells slots ls G)⟩
  | .int _ :: st, h => cases h
  | .long _ :: st, h => cases h
  | .float _ :: st, h => cases h
  | .double _ :: st, h => cases h
  | .retAddr _ :: st, h => cases h
theorem so_goto (C : Cx p s m args meth c D cA sc o) (off : Int) : StOK p l e R s m args below meth c Q D cA sc f o bz bu (.goto off) := by
  intro pc L st w c' len hd hk h
  obtain ⟨hx, hb, hml, hown, hts, hKK, hin⟩ := C
  dsimp only [stp1] at h
  dsimp only [okl] at hk
  replace hk := of_decide_eq_true hk
  dsimp only [iln] at hk
  subst hk
  obtain ⟨t, et, h⟩ := jmp_inv h
  obtain rfl := nx_inv h
  exact ⟨mo.rf, fun H locs cells slots ls G h1 h2 kk => lv_goto hx hb hd et (kk H locs cells slots ls G)⟩
theorem so_tableswitch (C : Cx p s m args meth c D cA sc o) (dflt lo hi : Int) (offs : Array Int) : StOK p l e R s m args below meth c Q D cA sc f o bz bu (.tableswitch dflt lo hi offs) := by
  intro pc L st w c' len hd hk h
  obtain ⟨hx, hb, hml, hown, hts, hKK, hin⟩ := C
  dsimp only [stp1] at h
  obtain ⟨x, r, e1, h9⟩ := sI_inv h
  clear h
  subst e1
  have h := h9
  clear h9
  split at h
  next hc =>
    obtain ⟨t, et, h⟩ := jmp_inv h
    obtain rfl := nx_inv h
    exact ⟨mo.rf, fun H locs cells slots ls G h1 h2 kk => lv_tableOut hx hb hd hc et (kk H locs cells slots ls G)⟩
  next hc =>
    split at h
    next off ho =>
      obtain ⟨t, et, h⟩ := jmp_inv h
      obtain rfl := nx_inv h
      exact ⟨mo.rf, fun H locs cells slots ls G h1 h2 kk => lv_tableIn hx hb hd (fun z => hc (Or.inl z)) (fun z => hc (Or.inr z)) ho et (kk H locs cells slots ls G)⟩
    next => cases h
theorem so_lookupswitch (C : Cx p s m args meth c D cA sc o) (dflt : Int) (ps : Array (Int × Int)) : StOK p l e R s m args below meth c Q D cA sc f o bz bu (.lookupswitch dflt ps) := by
  intro pc L st w c' len hd hk h
  obtain ⟨hx, hb, hml, hown, hts, hKK, hin⟩ := C
  dsimp only [stp1] at h
  obtain ⟨x, r, e1, h9⟩ := sI_inv h
  clear h
  subst e1
  have h := h9
  clear h9
  split at h
  next hc =>
    obtain ⟨t, et, h⟩ := jmp_inv h
    obtain rfl := nx_inv h
    exact ⟨mo.rf, fun H locs cells slots ls G h1 h2 kk => lv_lookup hx hb hd hc rfl et (kk H locs cells slots ls G)⟩
  next => cases h
end SND
end
section
/-! fields, arrays, new cells -/
theorem xLays (c : Nat) (h : c < 10) : ∀ w ∈ u_ws (xCN c) (xTC c) (xNF c), w ∈ wsG := by
  intro w hw
  obtain ⟨k, hk, rfl⟩ := List.mem_map.mp hw
  have hm : (c, k) ∈ xLL := List.mem_flatMap.mpr ⟨c, List.mem_range.mpr h, List.mem_map.mpr ⟨k, hk, rfl⟩⟩
  obtain ⟨b, hb⟩ := xZip_drop xLay_ok _ hm
  exact xAt_in hb
theorem xInst (c : Nat) (h : c < 10) : Cond.instantiable (xCN c) (xNF c) ∈ wsG := by
  obtain ⟨b, hb⟩ := xZip_drop xIns_ok c (List.mem_range.mpr h)
  exact xAt_in hb
def tyk (t : Nat) (ty : FieldType) : Prop := (t = 0 ∧ ty = .int) ∨ (t = 1 ∧ ty = .boolean) ∨ (t = 2 ∧ ((∃ n, ty = .object n) ∨ ∃ u, ty = .array u))
theorem fF_ok {c i ci k t : Nat} (h : fF c i = some (ci, k, t)) : ci < 10 ∧ k < xNF ci ∧ Cond.fieldLink (xCN c) i (xTC ci k).1 (xTC ci k).2.1 (xTC ci k).2.2.1 ∈ wsG ∧ (xTC ci k).1 = xCN ci ∧ tyk t (xTy ci k) := by
  unfold fF at h
  obtain ⟨q, hq, e⟩ := Option.map_eq_some_iff.mp h
  obtain ⟨h1, h2⟩ := xFind hq
  obtain ⟨c', i', ci', k', t'⟩ := q
  cases e
  simp only [Bool.and_eq_true, beq_iff_eq] at h2
  obtain ⟨rfl, rfl⟩ := h2
  obtain ⟨b, hb⟩ := xFT_all _ h1
  simp only [xFok, Bool.and_eq_true, decide_eq_true_eq] at hb
  obtain ⟨⟨⟨⟨a1, a2⟩, a3⟩, a4⟩, a5⟩ := hb
  refine ⟨a1, a2, xAt_in a3, a4, ?_⟩
  revert a5
  generalize xTy ci k = ty
  intro a5
  split at a5
  · exact Or.inl ⟨rfl, rfl⟩
  · exact Or.inr (Or.inl ⟨rfl, rfl⟩)
  · exact Or.inr (Or.inr ⟨rfl, Or.inl ⟨_, rfl⟩⟩)
  · exact Or.inr (Or.inr ⟨rfl, Or.inr ⟨_, rfl⟩⟩)
  · cases a5
theorem tck_ok {t : Nat} {ty : FieldType} {v : Value} (h : tck t v = true) (k : tyk t ty) : narrow ty v = v ∧ fits ty v = true := by
  rcases k with ⟨rfl, rfl⟩ | ⟨rfl, rfl⟩ | ⟨rfl, k⟩
  · cases v <;> simp [tck] at h
    exact ⟨rfl, rfl⟩
  · cases v <;> simp [tck] at h
    rcases h with rfl | rfl <;> exact ⟨by decide +kernel, by decide +kernel⟩
  · cases v <;> simp [tck] at h
    rcases k with ⟨n, rfl⟩ | ⟨u, rfl⟩ <;> exact ⟨rfl, rfl⟩
theorem xTys_at (cA : Nat → ClassId) {c : Nat} (h1 : 10 ≤ c) (h2 : c ≤ 15) : (xTys cA)[c - 10]? = some (cA c, xETy c) := by
  rcases (show c = 10 ∨ c = 11 ∨ c = 12 ∨ c = 13 ∨ c = 14 ∨ c = 15 by omega) with rfl | rfl | rfl | rfl | rfl | rfl <;> rfl
theorem ain_ok {j : Int32} {n : Nat} (h : ain j n = true) : ¬ j < 0 ∧ j.toNatClampNeg < n := by
  simpa [ain] using h
section SND2
variable {p : Program} {l : Launch} {e : Env} {R : Room} {s : State} {m : MethodId} {args : Array Value} {below : List Frame} {meth : Method} {c : Code} {Q : State → Prop} {D : va_G} {cA : Nat → ClassId} {sc : Cell} {f : xF} {o bz bu : Nat}
theorem so_getfield (C : Cx p s m args meth c D cA sc o) (n : Nat) : StOK p l e R s m args below meth c Q D cA sc f o bz bu (.getfield n) := by
  intro pc L st w c' len hd hk h
  obtain ⟨hx, hb, hml, hown, hts, hKK, hin⟩ := C
  dsimp only [stp1] at h
  dsimp only [okl] at hk
  replace hk := of_decide_eq_true hk
  dsimp only [iln] at hk
  subst hk
  cases hf : fF (xCl o) n with
  | none => rw [hf] at h; cases h
  | some q =>
    obtain ⟨ci, k, t⟩ := q
    rw [hf] at h
    dsimp only at h
    obtain ⟨a, r, e1, h9⟩ := sA_inv h
    clear h
    subst e1
    cases hg : gf w a ci k with
    | none => rw [hg] at h9; cases h9
    | some v =>
      rw [hg] at h9
      obtain rfl := nx_inv h9
      obtain ⟨hci, hk2, hl, hrf, -⟩ := fF_ok hf
      refine ⟨mo.rf, fun H locs cells slots ls G h1 h2 kk => ?_⟩
      unfold gf at hg
      split at hg
      next c' n' fn hc =>
        split at hg
        next hcc =>
          cases hg
          subst hcc
          rcases G.1.2 a _ hc with ⟨h10, cell, q1, q2, q3, q4⟩ | ⟨h10, -⟩ | ⟨h16, -⟩
          · obtain ⟨hS, hfc, kC, hkC, hkind⟩ := hKK.1.1 c' _ (xCls c' hci)
            obtain ⟨cf, kf, fi, fd, hi, hsl⟩ := hS k hk2
            refine W.getf hx hb hown (hts _ hl) hi (u_facts hfc hkC (u_lays hts (xLays c' hci) hk2) hi).1 q1 (by rw [q3]; exact fun z => by cases z) (v := fn k) ?_ rfl rfl hd (kk H locs cells slots ls G)
            rw [hsl]
            exact q4 k hk2
          · exact absurd hci (Nat.not_lt.mpr h10)
          · omega
        next => cases hg
      next => cases hg
theorem so_putfield (C : Cx p s m args meth c D cA sc o) (n : Nat) : StOK p l e R s m args below meth c Q D cA sc f o bz bu (.putfield n) := by
  intro pc L st w c' len hd hk h
  obtain ⟨hx, hb, hml, hown, hts, hKK, hin⟩ := C
  dsimp only [stp1] at h
  dsimp only [okl] at hk
  replace hk := of_decide_eq_true hk
  dsimp only [iln] at hk
  subst hk
  cases hf : fF (xCl o) n with
  | none => rw [hf] at h; cases h
  | some q =>
    obtain ⟨ci, k, t⟩ := q
    rw [hf] at h
    cases st with
    | nil => cases h
    | cons v st =>
    dsimp only at h
    obtain ⟨a, r, e1, h9⟩ := sA_inv h
    clear h
    subst e1
    split at h9
    next hcnd =>
      cases hg : pf w a ci k v with
      | none => rw [hg] at h9; cases h9
      | some w' =>
        rw [hg] at h9
        obtain rfl := nx_inv h9
        obtain ⟨hci, hk2, hl, hrf, hty⟩ := fF_ok hf
        obtain ⟨hn, hfit⟩ := tck_ok hcnd.1 hty
        unfold pf at hg
        split at hg
        next c' n' fn hc =>
          split at hg
          next hcc =>
            cases hg
            obtain ⟨hbase, hcc⟩ := hcc
            subst hcc
            refine ⟨⟨rfl, Nat.le_refl _, Nat.le_refl _⟩, fun H locs cells slots ls G h1 h2 kk => ?_⟩
            rcases G.1.2 a _ hc with ⟨h10, cell, q1, q2, q3, q4⟩ | ⟨h10, -⟩ | ⟨h16, -⟩
            · have hap := va_apart (own := xCN (xCl o)) hts (xLays c' hci) (xTy c') (xTyok c' hci) (xNm c' hci) hKK.1 (xCls c' hci)
              obtain ⟨hS, hfc, kC, hkC, hkind⟩ := hKK.1.1 c' _ (xCls c' hci)
              obtain ⟨cf, kf, fi, fd, hi, hsl⟩ := hS k hk2
              have hst := (u_facts hfc hkC (u_lays hts (xLays c' hci) hk2) hi).1
              have hlay := hts _ (xLays c' hci _ (u_in_lay hk2))
              have fin : ∀ H' : Heap, H'[a]? = some (cell.setSlot fd.slot v) → H'.size = H.size → (∀ q, q ≠ a → H'[q]? = H[q]?) → W p l e R s m args below meth c H' (locs ++ [⟨a, fd.slot⟩]) cells slots Q (F0 m (pc + 3) ls r) := by
                intro H' e1 e2 e3
                rw [hsl] at e1
                refine kk H' _ cells slots ls ⟨hw_up G.1 (Or.inl ⟨hci, _, e1, q2, q3, t_set q4 hap hk2 v⟩) e2 e3, G.2.1, fun q hq => ?_, G.2.2.2⟩
                rcases List.mem_append.mp hq with z | z
                · exact G.2.2.1 q z
                · rw [List.mem_singleton.mp z]; exact hbase
              unfold u_lay at hlay
              by_cases hfin : (xTC c' k).2.2.2 = true
              · rw [if_pos hfin] at hlay
                obtain ⟨hk3, hoc⟩ := hcnd.2 hfin
                have hcf : m.cls = cf := by
                  obtain ⟨_, _, c2, _, _, _, -, -, hf', -, -, -, hown2, -⟩ := Cond.laysFinal_spec hlay
                  have e1 : c2 = cf := by have := hi.symm.trans hf'; simp at this; exact this.1.symm
                  rw [hrf, ← hoc] at hown2
                  rw [← e1]; exact Option.some.inj (hown.symm.trans hown2)
                have h6 := u_fits hfc hkC hkind (Or.inr hlay) hi (xTyok c' hci k hk2) hn hfit
                exact W.putFinK hx hb hown (hts _ hl) hi hst hcf (hin hk3) (by rw [q2]; exact h6) q1 q3 (by rw [hsl]; exact k2_hasslot (q4 k hk2)) rfl rfl hd fin
              · rw [if_neg hfin] at hlay
                have h6 := u_store hfc hkC hkind hlay hi (xTyok c' hci k hk2) hn hfit
                exact W.putK hx hb (f := fd) ⟨hown, hts _ hl, ⟨_, _, _, hi⟩, hst⟩ (by rw [q2]; exact h6) q1 q3 (by rw [hsl]; exact k2_hasslot (q4 k hk2)) rfl rfl hd fin
            · exact absurd hci (Nat.not_lt.mpr h10)
            · omega
          next => cases hg
        next => cases hg
    next => cases h9
theorem ag_ok {w : Wd} {a lo hi : Nat} {j : Int32} {v : Value} (h : ag w a lo hi j = some v) (h10 : 10 ≤ lo) (h15 : hi ≤ 15) (hK : KK D cA sc s) {H : Heap} (hH : hw D cA sc w H) :
    ∃ (k n : Nat) (fn : Nat → Value), lo ≤ k ∧ k ≤ hi ∧ H[a]? = some (arrV (cA k) n fn) ∧ ¬ j < 0 ∧ j.toNatClampNeg < n ∧ v = fn j.toNatClampNeg ∧ ArrOfT s (cA k) (xETy k) := by
  unfold ag at h
  split at h
  next k n fn hc =>
    split at h
    next hcc =>
      cases h
      obtain ⟨a1, a2⟩ := ain_ok hcc.2.2
      rcases hH.2 a _ hc with ⟨z, -⟩ | ⟨z1, z2, z3⟩ | ⟨z1, z2, z3⟩
      · exact absurd (Nat.lt_of_lt_of_le z (Nat.le_trans h10 hcc.1)) (Nat.lt_irrefl _)
      · exact ⟨k, n, fn, hcc.1, hcc.2.1, z3, a1, a2, rfl, (hK.1.2 _ _ (xTys_at cA z1 z2)).1⟩
      · have z9 : k = 16 := z1
        omega
    next => cases h
  next => cases h
theorem so_iaload (C : Cx p s m args meth c D cA sc o) : StOK p l e R s m args below meth c Q D cA sc f o bz bu .iaload := by
  intro pc L st w c' len hd hk h
  obtain ⟨hx, hb, hml, hown, hts, hKK, hin⟩ := C
  dsimp only [stp1] at h
  dsimp only [okl] at hk
  replace hk := of_decide_eq_true hk
  dsimp only [iln] at hk
  subst hk
  obtain ⟨j, r, e1, h9⟩ := sI_inv h
  clear h
  subst e1
  obtain ⟨a, r, e1, h8⟩ := sA_inv h9
  clear h9
  subst e1
  cases hg : ag w a 10 10 j with
  | none =>
    rw [hg] at h8
    dsimp only at h8
    cases hg2 : ag w a 16 16 j with
    | none => rw [hg2] at h8; cases h8
    | some v =>
      rw [hg2] at h8
      obtain rfl := nx_inv h8
      refine ⟨mo.rf, fun H locs cells slots ls G h1 h2 kk => ?_⟩
      unfold ag at hg2
      split at hg2
      next k n fn hc =>
        split at hg2
        next hcc =>
          cases hg2
          obtain ⟨a1, a2⟩ := ain_ok hcc.2.2
          rcases G.1.2 a _ hc with ⟨z, -⟩ | ⟨z1, z2, z3⟩ | ⟨z1, z2, z3, z4⟩
          · have z9 : k < 10 := z
            omega
          · have z9 : k ≤ 15 := z2
            omega
          · exact W.iald hx hb z2 hKK.2.2.1 hKK.2.2.2 (by rw [z3]; rintro (z | z); exact a1 z; exact absurd a2 (Nat.not_lt.mpr z)) (z4 _ a2) rfl rfl hd (kk H locs cells slots ls G)
        next => cases hg2
      next => cases hg2
  | some v =>
    rw [hg] at h8
    obtain rfl := nx_inv h8
    refine ⟨mo.rf, fun H locs cells slots ls G h1 h2 kk => ?_⟩
    obtain ⟨k, n, fn, z1, z2, hc, a1, a2, rfl, hA⟩ := ag_ok hg (by decide) (by decide) hKK G.1
    obtain rfl : k = 10 := by omega
    exact W.iald hx hb hc (hA n fn) (fun q => by cases q) (by rw [arrV_size]; rintro (z | z); exact a1 z; omega) (by rw [arrV_read _ _ a2]) rfl rfl hd (kk H locs cells slots ls G)
theorem so_caload (C : Cx p s m args meth c D cA sc o) : StOK p l e R s m args below meth c Q D cA sc f o bz bu .caload := by
  intro pc L st w c' len hd hk h
  obtain ⟨hx, hb, hml, hown, hts, hKK, hin⟩ := C
  dsimp only [stp1] at h
  dsimp only [okl] at hk
  replace hk := of_decide_eq_true hk
  dsimp only [iln] at hk
  subst hk
  obtain ⟨j, r, e1, h9⟩ := sI_inv h
  clear h
  subst e1
  obtain ⟨a, r, e1, h8⟩ := sA_inv h9
  clear h9
  subst e1
  cases hg : ag w a 11 11 j with
  | none => rw [hg] at h8; cases h8
  | some v =>
    rw [hg] at h8
    obtain rfl := nx_inv h8
    refine ⟨mo.rf, fun H locs cells slots ls G h1 h2 kk => ?_⟩
    obtain ⟨k, n, fn, z1, z2, hc, a1, a2, rfl, hA⟩ := ag_ok hg (by decide) (by decide) hKK G.1
    obtain rfl : k = 11 := by omega
    exact W.cald hx hb hc (hA n fn) (fun q => by cases q) (by rw [arrV_size]; rintro (z | z); exact a1 z; omega) (by rw [arrV_read _ _ a2]) rfl rfl hd (kk H locs cells slots ls G)
theorem so_aaload (C : Cx p s m args meth c D cA sc o) : StOK p l e R s m args below meth c Q D cA sc f o bz bu .aaload := by
  intro pc L st w c' len hd hk h
  obtain ⟨hx, hb, hml, hown, hts, hKK, hin⟩ := C
  dsimp only [stp1] at h
  dsimp only [okl] at hk
  replace hk := of_decide_eq_true hk
  dsimp only [iln] at hk
  subst hk
  obtain ⟨j, r, e1, h9⟩ := sI_inv h
  clear h
  subst e1
  obtain ⟨a, r, e1, h8⟩ := sA_inv h9
  clear h9
  subst e1
  cases hg : ag w a 12 15 j with
  | none => rw [hg] at h8; cases h8
  | some v =>
    rw [hg] at h8
    obtain rfl := nx_inv h8
    refine ⟨mo.rf, fun H locs cells slots ls G h1 h2 kk => ?_⟩
    obtain ⟨k, n, fn, z1, z2, hc, a1, a2, rfl, hA⟩ := ag_ok hg (by decide) (by decide) hKK G.1
    have hr : (xETy k).isReference = true := by
      rcases (show k = 12 ∨ k = 13 ∨ k = 14 ∨ k = 15 by omega) with rfl | rfl | rfl | rfl <;> rfl
    exact W.aald hx hb hc (hA n fn) hr (fun q => by cases q) (by rw [arrV_size]; rintro (z | z); exact a1 z; omega) (by rw [arrV_read _ _ a2]) rfl rfl hd (kk H locs cells slots ls G)
theorem so_arraylength (C : Cx p s m args meth c D cA sc o) : StOK p l e R s m args below meth c Q D cA sc f o bz bu .arraylength := by
  intro pc L st w c' len hd hk h
  obtain ⟨hx, hb, hml, hown, hts, hKK, hin⟩ := C
  dsimp only [stp1] at h
  dsimp only [okl] at hk
  replace hk := of_decide_eq_true hk
  dsimp only [iln] at hk
  subst hk
  obtain ⟨a, r, e1, h8⟩ := sA_inv h
  clear h
  subst e1
  cases hg : al w a with
  | none => rw [hg] at h8; cases h8
  | some v =>
    rw [hg] at h8
    obtain rfl := nx_inv h8
    refine ⟨mo.rf, fun H locs cells slots ls G h1 h2 kk => ?_⟩
    unfold al at hg
    split at hg
    next k n fn hc =>
      split at hg
      next hcc =>
        cases hg
        rcases G.1.2 a _ hc with ⟨z, -⟩ | ⟨z1, z2, z3⟩ | ⟨z1, z2, z3⟩
        · exact absurd (Nat.lt_of_lt_of_le z hcc.1) (Nat.lt_irrefl _)
        · exact W.alen hx hb z3 ((hKK.1.2 _ _ (xTys_at cA z1 z2)).1 n fn) (by rw [arrV_size]) rfl rfl hd (kk H locs cells slots ls G)
        · exact W.alen hx hb z2 hKK.2.2.1 (by rw [z3.1]) rfl rfl hd (kk H locs cells slots ls G)
      next => cases hg
    next => cases hg
theorem ap_ok {w w' : Wd} {a lo hi : Nat} {j : Int32} {v : Value} (h : ap w a lo hi j v = some w') (h10 : 10 ≤ lo) (h15 : hi ≤ 15) :
    mo w w' ∧ w'.1 = w.1 ∧ w'.2.1 = w.2.1 ∧ w'.2.2.1 = w.2.2.1 ∧ w.1 ≤ a ∧ ∃ (k n : Nat) (fn : Nat → Value), lo ≤ k ∧ k ≤ hi ∧ w.2.2.2 a = some (k, n, fn) ∧ ¬ j < 0 ∧ j.toNatClampNeg < n ∧ w' = wup w a (k, n, updV fn j.toNatClampNeg v) := by
  unfold ap at h
  split at h
  next k n fn hc =>
    split at h
    next hcc =>
      cases h
      obtain ⟨a1, a2⟩ := ain_ok hcc.2.2.2
      exact ⟨⟨rfl, Nat.le_refl _, Nat.le_refl _⟩, rfl, rfl, rfl, hcc.1, k, n, fn, hcc.2.1, hcc.2.2.1, hc, a1, a2, rfl⟩
    next => cases h
  next => cases h
theorem hw_arr {w : Wd} {H H' : Heap} {a k n i : Nat} {fn : Nat → Value} {v : Value} (hH : hw D cA sc w H) (h10 : 10 ≤ k ∧ k ≤ 15) (hc : w.2.2.2 a = some (k, n, fn)) (e1 : H'[a]? = some ((arrV (cA k) n fn).setSlot i v)) (e2 : H'.size = H.size) (e3 : ∀ q, q ≠ a → H'[q]? = H[q]?) : hw D cA sc (wup w a (k, n, updV fn i v)) H' := by
  rcases hH.2 a _ hc with ⟨z, -⟩ | ⟨z1, z2, z3⟩ | ⟨z1, z2, z3⟩
  · exact absurd (Nat.lt_of_lt_of_le z h10.1) (Nat.lt_irrefl _)
  · exact hw_up hH (Or.inr (Or.inl ⟨z1, z2, by rw [e1, arrV_store]⟩)) e2 e3
  · have z9 : k = 16 := z1
    omega
theorem locs_add {b a i : Nat} {locs : List Loc} (h : ∀ q ∈ locs, b ≤ q.base) (ha : b ≤ a) : ∀ q ∈ locs ++ [⟨a, i⟩], b ≤ q.base := by
  intro q hq
  rcases List.mem_append.mp hq with z | z
  · exact h q z
  · rw [List.mem_singleton.mp z]; exact ha
theorem hw_at {w : Wd} {H : Heap} {a k n : Nat} {fn : Nat → Value} (hH : hw D cA sc w H) (h10 : 10 ≤ k ∧ k ≤ 15) (hc : w.2.2.2 a = some (k, n, fn)) : H[a]? = some (arrV (cA k) n fn) := by
  rcases hH.2 a _ hc with ⟨z, -⟩ | ⟨z1, z2, z3⟩ | ⟨z1, z2, z3⟩
  · exact absurd (Nat.lt_of_lt_of_le z h10.1) (Nat.lt_irrefl _)
  · exact z3
  · have z9 : k = 16 := z1
    omega
theorem so_iastore (C : Cx p s m args meth c D cA sc o) : StOK p l e R s m args below meth c Q D cA sc f o bz bu .iastore := by
  intro pc L st w c' len hd hk h
  obtain ⟨hx, hb, hml, hown, hts, hKK, hin⟩ := C
  dsimp only [stp1] at h
  dsimp only [okl] at hk
  replace hk := of_decide_eq_true hk
  dsimp only [iln] at hk
  subst hk
  obtain ⟨x, r, e1, h9⟩ := sI_inv h
  clear h
  subst e1
  obtain ⟨j, r, e1, h8⟩ := sI_inv h9
  clear h9
  subst e1
  obtain ⟨a, r, e1, h7⟩ := sA_inv h8
  clear h8
  subst e1
  cases hg : ap w a 10 10 j (.int x) with
  | none => rw [hg] at h7; cases h7
  | some w' =>
    rw [hg] at h7
    obtain rfl := nx_inv h7
    obtain ⟨hm, b1, b2, b3, hba, k, n, fn, z1, z2, hc, a1, a2, rfl⟩ := ap_ok hg (by decide) (by decide)
    obtain rfl : k = 10 := by omega
    refine ⟨hm, fun H locs cells slots ls G h1 h2 kk => ?_⟩
    have hcell := hw_at G.1 ⟨by decide, by decide⟩ hc
    refine W.iast hx hb hcell ((hKK.1.2 _ _ (xTys_at cA (c := 10) (by decide) (by decide))).1 n fn) (fun q => by cases q) (by rw [arrV_size]; rintro (z | z); exact a1 z; omega) rfl rfl hd (fun H' e1 e2 e3 => ?_)
    exact kk H' _ cells slots ls ⟨hw_arr G.1 ⟨by decide, by decide⟩ hc e1 e2 e3, G.2.1, locs_add G.2.2.1 hba, G.2.2.2⟩
theorem so_castore (C : Cx p s m args meth c D cA sc o) : StOK p l e R s m args below meth c Q D cA sc f o bz bu .castore := by
  intro pc L st w c' len hd hk h
  obtain ⟨hx, hb, hml, hown, hts, hKK, hin⟩ := C
  dsimp only [stp1] at h
  dsimp only [okl] at hk
  replace hk := of_decide_eq_true hk
  dsimp only [iln] at hk
  subst hk
  obtain ⟨x, r, e1, h9⟩ := sI_inv h
  clear h
  subst e1
  obtain ⟨j, r, e1, h8⟩ := sI_inv h9
  clear h9
  subst e1
  obtain ⟨a, r, e1, h7⟩ := sA_inv h8
  clear h8
  subst e1
  cases hg : ap w a 11 11 j (narrow .char (.int x)) with
  | none => rw [hg] at h7; cases h7
  | some w' =>
    rw [hg] at h7
    obtain rfl := nx_inv h7
    obtain ⟨hm, b1, b2, b3, hba, k, n, fn, z1, z2, hc, a1, a2, rfl⟩ := ap_ok hg (by decide) (by decide)
    obtain rfl : k = 11 := by omega
    refine ⟨hm, fun H locs cells slots ls G h1 h2 kk => ?_⟩
    have hcell := hw_at G.1 ⟨by decide, by decide⟩ hc
    refine W.cast hx hb hcell ((hKK.1.2 _ _ (xTys_at cA (c := 11) (by decide) (by decide))).1 n fn) (fun q => by cases q) (by rw [arrV_size]; rintro (z | z); exact a1 z; omega) rfl rfl hd (fun H' e1 e2 e3 => ?_)
    exact kk H' _ cells slots ls ⟨hw_arr G.1 ⟨by decide, by decide⟩ hc e1 e2 e3, G.2.1, locs_add G.2.2.1 hba, G.2.2.2⟩
theorem xEl_lt {k : Nat} : xEl k < 10 := by
  unfold xEl
  split <;> decide
theorem so_aastore (C : Cx p s m args meth c D cA sc o) : StOK p l e R s m args below meth c Q D cA sc f o bz bu .aastore := by
  intro pc L st w c' len hd hk h
  obtain ⟨hx, hb, hml, hown, hts, hKK, hin⟩ := C
  dsimp only [stp1] at h
  dsimp only [okl] at hk
  replace hk := of_decide_eq_true hk
  dsimp only [iln] at hk
  subst hk
  obtain ⟨v, r, e1, h9⟩ := sA_inv h
  clear h
  subst e1
  obtain ⟨j, r, e1, h8⟩ := sI_inv h9
  clear h9
  subst e1
  obtain ⟨a, r, e1, h7⟩ := sA_inv h8
  clear h8
  subst e1
  split at h7
  next hkd =>
    cases hg : ap w a 12 15 j (.ref v) with
    | none => rw [hg] at h7; cases h7
    | some w' =>
      rw [hg] at h7
      obtain rfl := nx_inv h7
      obtain ⟨hm, b1, b2, b3, hba, k, n, fn, z1, z2, hc, a1, a2, rfl⟩ := ap_ok hg (by decide) (by decide)
      refine ⟨hm, fun H locs cells slots ls G h1 h2 kk => ?_⟩
      have hcell := hw_at G.1 ⟨by omega, by omega⟩ hc
      have hka : kd w a = k := by unfold kd; rw [hc]
      rw [hka] at hkd
      obtain ⟨cv, hcv, hcv1⟩ : ∃ cv, w.2.2.2 v = some cv ∧ cv.1 = xEl k := by
        unfold kd at hkd
        split at hkd
        next cv hv => exact ⟨cv, hv, hkd⟩
        next => have := xEl_lt (k := k); omega
      have hE := xEl_lt (k := k)
      rcases G.1.2 v cv hcv with ⟨y1, cell, q1, q2, q3, -⟩ | ⟨y1, -⟩ | ⟨y1, -⟩
      · rw [hcv1] at q2
        have hcls := (hKK.1.1 _ _ (xCls _ hE)).2
        have hty : xETy k = .object (xCN (xEl k)) := by
          rcases (show k = 12 ∨ k = 13 ∨ k = 14 ∨ k = 15 by omega) with rfl | rfl | rfl | rfl <;> rfl
        have hra := (hKK.1.2 _ _ (xTys_at cA (c := k) (by omega) (by omega))).2
        rw [hty] at hra
        obtain ⟨kA, comp, k1, k2, k3, -⟩ := hra
        have hcomp : comp = D.1 (xEl k) := Option.some.inj (k3.symm.trans hcls.1)
        subst hcomp
        obtain ⟨kC, hkC, -⟩ := hcls.2
        refine W.aast hx hb hcell (fun q h => by cases h) (fun h => by cases h) k1 k2 rfl hkC ⟨a1, by rw [arrV_size]; exact a2⟩ q1 (fun q h => by rw [q3] at h; cases h) (by rw [q2]; exact hkC) (by rw [q2]; exact va_assign hcls) rfl rfl hd fun H' e1 e2 e3 => ?_
        exact kk H' _ cells slots ls ⟨hw_arr G.1 ⟨by omega, by omega⟩ hc e1 e2 e3, G.2.1, locs_add G.2.2.1 hba, G.2.2.2⟩
      · omega
      · omega
  next => cases h7
theorem f2_mem : ∀ {l : List (Nat × Nat × Nat)} {c i k : Nat}, f2 l c i = some k → (c, i, k) ∈ l
  | [], _, _, _, h => by simp [f2] at h
  | (a, b, d) :: r, c, i, k, h => by
    rw [f2] at h
    split at h
    next hc => cases h; obtain ⟨rfl, rfl⟩ := hc; exact List.mem_cons_self
    next => exact List.mem_cons_of_mem _ (f2_mem h)
theorem so_new (C : Cx p s m args meth c D cA sc o) (n : Nat) : StOK p l e R s m args below meth c Q D cA sc f o bz bu (.new n) := by
  intro pc L st w c' len hd hk h
  obtain ⟨hx, hb, hml, hown, hts, hKK, hin⟩ := C
  dsimp only [stp1] at h
  dsimp only [okl] at hk
  replace hk := of_decide_eq_true hk
  dsimp only [iln] at hk
  subst hk
  cases hf : f2 xNT (xCl o) n with
  | none => rw [hf] at h; cases h
  | some ci =>
    rw [hf] at h
    obtain rfl := nx_inv h
    obtain ⟨b, hbk⟩ := xNT_all _ (f2_mem hf)
    simp only [xNok, Bool.and_eq_true, decide_eq_true_eq] at hbk
    obtain ⟨⟨⟨hci, w1⟩, w2⟩, w3⟩ := hbk
    refine ⟨⟨rfl, by show w.2.1 ≤ w.2.1 + 1; omega, by show w.2.2.1 ≤ w.2.2.1 + xNF ci; omega⟩, fun H locs cells slots ls G h1 h2 kk => ?_⟩
    have g4 : cells + bz = w.2.1 := G.2.2.2.1
    have g5 : slots + bu = w.2.2.1 := G.2.2.2.2
    have h1' : w.2.1 + 1 ≤ R.cells + bz := h1
    have h2' : w.2.2.1 + xNF ci ≤ R.slots + bu := h2
    have hKn := hKK.1.1 ci _ (xCls ci hci)
    refine W.newcK hx hb hown (hts _ (xAt_in w1)) (hts _ (xAt_in w2)) (hts _ (xAt_in w3)) rfl hd (by omega) (by omega) hKn.2.1 G.1.1 fun H' kC hkC e1 z1 o1 => ?_
    refine kk H' locs _ _ ls ⟨hw_new G.1 (Or.inl ⟨hci, u_born (xTy ci) hts (xLays ci hci) hKn hkC e1 (xTyok ci hci)⟩) z1 o1, G.2.1, G.2.2.1, ?_, ?_⟩
    · show cells + 1 + bz = w.2.1 + 1; omega
    · show slots + xNF ci + bu = w.2.2.1 + xNF ci; omega
theorem so_newarray (C : Cx p s m args meth c D cA sc o) (t : ArrayType) : StOK p l e R s m args below meth c Q D cA sc f o bz bu (.newarray t) := by
  intro pc L st w c' len hd hk h
  obtain ⟨hx, hb, hml, hown, hts, hKK, hin⟩ := C
  dsimp only [stp1] at h
  dsimp only [okl] at hk
  replace hk := of_decide_eq_true hk
  dsimp only [iln] at hk
  subst hk
  obtain ⟨n, r, e1, h9⟩ := sI_inv h
  clear h
  subst e1
  have hobj := xObj_ok
  simp only [Bool.and_eq_true] at hobj
  split at h9
  next hn =>
    split at h9
    next ht =>
      subst ht
      obtain rfl := nx_inv h9
      refine ⟨⟨rfl, by show w.2.1 ≤ w.2.1 + 1; omega, by show w.2.2.1 ≤ w.2.2.1 + n.toNatClampNeg; omega⟩, fun H locs cells slots ls G h1 h2 kk => ?_⟩
      have g4 : cells + bz = w.2.1 := G.2.2.2.1
      have g5 : slots + bu = w.2.2.1 := G.2.2.2.2
      have h1' : w.2.1 + 1 ≤ R.cells + bz := h1
      have h2' : w.2.2.1 + n.toNatClampNeg ≤ R.slots + bu := h2
      refine va_newaK (atype := .int) hx hb (hts _ (xAt_in hobj.1.2)) rfl hd rfl hn.1 rfl (by show n.toNatClampNeg * 4 ≤ _; omega) (by omega) (by omega) G.1.1 fun H' cA' e1 z1 o1 hAr hNm => ?_
      have hra := (hKK.1.2 _ _ (xTys_at cA (c := 10) (by decide) (by decide))).2
      have ec : cA' = cA 10 := Option.some.inj (hNm.symm.trans hra)
      subst ec
      refine kk H' locs _ _ ls ⟨hw_new G.1 (Or.inr (Or.inl ⟨by show 10 ≤ 10; decide, by show 10 ≤ 15; decide, e1⟩)) z1 o1, G.2.1, G.2.2.1, ?_, ?_⟩
      · show cells + 1 + bz = w.2.1 + 1; omega
      · show slots + n.toNatClampNeg + bu = w.2.2.1 + n.toNatClampNeg; omega
    next =>
      split at h9
      next ht =>
        subst ht
        obtain rfl := nx_inv h9
        refine ⟨⟨rfl, by show w.2.1 ≤ w.2.1 + 1; omega, by show w.2.2.1 ≤ w.2.2.1 + n.toNatClampNeg; omega⟩, fun H locs cells slots ls G h1 h2 kk => ?_⟩
        have g4 : cells + bz = w.2.1 := G.2.2.2.1
        have g5 : slots + bu = w.2.2.1 := G.2.2.2.2
        have h1' : w.2.1 + 1 ≤ R.cells + bz := h1
        have h2' : w.2.2.1 + n.toNatClampNeg ≤ R.slots + bu := h2
        refine va_newaK (atype := .char) hx hb (hts _ (xAt_in hobj.2)) rfl hd rfl hn.1 rfl (by show n.toNatClampNeg * 2 ≤ _; omega) (by omega) (by omega) G.1.1 fun H' cA' e1 z1 o1 hAr hNm => ?_
        have hra := (hKK.1.2 _ _ (xTys_at cA (c := 11) (by decide) (by decide))).2
        have ec : cA' = cA 11 := Option.some.inj (hNm.symm.trans hra)
        subst ec
        refine kk H' locs _ _ ls ⟨hw_new G.1 (Or.inr (Or.inl ⟨by show 10 ≤ 11; decide, by show 11 ≤ 15; decide, e1⟩)) z1 o1, G.2.1, G.2.2.1, ?_, ?_⟩
        · show cells + 1 + bz = w.2.1 + 1; omega
        · show slots + n.toNatClampNeg + bu = w.2.2.1 + n.toNatClampNeg; omega
      next => cases h9
  next => cases h9
theorem so_anewarray (C : Cx p s m args meth c D cA sc o) (i : Nat) : StOK p l e R s m args below meth c Q D cA sc f o bz bu (.anewarray i) := by
  intro pc L st w c' len hd hk h
  obtain ⟨hx, hb, hml, hown, hts, hKK, hin⟩ := C
  dsimp only [stp1] at h
  dsimp only [okl] at hk
  replace hk := of_decide_eq_true hk
  dsimp only [iln] at hk
  subst hk
  cases hf : f2 xAT (xCl o) i with
  | none => rw [hf] at h; cases h
  | some k =>
    rw [hf] at h
    dsimp only at h
    obtain ⟨n, r, e1, h9⟩ := sI_inv h
    clear h
    subst e1
    split at h9
    next hn =>
      obtain rfl := nx_inv h9
      obtain ⟨b, hbk⟩ := xAT_all _ (f2_mem hf)
      simp only [xAok, Bool.and_eq_true, decide_eq_true_eq] at hbk
      obtain ⟨⟨⟨k12, k15⟩, w1⟩, w2⟩ := hbk
      refine ⟨⟨rfl, by show w.2.1 ≤ w.2.1 + 1; omega, by show w.2.2.1 ≤ w.2.2.1 + n.toNatClampNeg; omega⟩, fun H locs cells slots ls G h1 h2 kk => ?_⟩
      have g4 : cells + bz = w.2.1 := G.2.2.2.1
      have g5 : slots + bu = w.2.2.1 := G.2.2.2.2
      have h1' : w.2.1 + 1 ≤ R.cells + bz := h1
      have h2' : w.2.2.1 + n.toNatClampNeg ≤ R.slots + bu := h2
      have hN : Cond.arrayOver (.object (xCN (xEl k))) ∈ wsN := List.mem_filter.mpr ⟨List.mem_of_getElem? w2, rfl⟩
      have hty : xETy k = .object (xCN (xEl k)) := by
        rcases (show k = 12 ∨ k = 13 ∨ k = 14 ∨ k = 15 by omega) with rfl | rfl | rfl | rfl <;> rfl
      have hra := (hKK.1.2 _ _ (xTys_at cA (c := k) (by omega) (by omega))).2
      rw [hty] at hra
      obtain ⟨kA0, comp0, k1, k2, k3, k4⟩ := hra
      refine W.anew hx hb hown (hts _ (xAt_in w1)) (va_AO.use (hKK.2.1 _ hN)) rfl hd rfl hn.1 (by omega) (by omega) (by omega) fun cA' kA comp y1 y2 y3 y4 => ?_
      have ec : cA' = cA k := Option.some.inj (y1.symm.trans k4)
      subst ec
      rw [G.1.1]
      refine kk _ locs _ _ ls ⟨hw_new G.1 (Or.inr (Or.inl ⟨by show 10 ≤ k; omega, by show k ≤ 15; omega, ?_⟩)) ?_ ?_, G.2.1, G.2.2.1, ?_, ?_⟩
      · rw [arrV_new, ← G.1.1]; simp
      · rw [← G.1.1]; simp
      · intro q hq
        rw [Array.getElem?_push, if_neg (by rw [G.1.1]; omega)]
      · show cells + 1 + bz = w.2.1 + 1; omega
      · show slots + n.toNatClampNeg + bu = w.2.2.1 + n.toNatClampNeg; omega
    next => cases h9
end SND2
end
section
/-! calls, returns, whole methods -/
theorem fM_ok {c i y z : Nat} (h : fM c i = some (y, z)) : y < 178 ∧ ((z = 0 ∧ Cond.methodLink (xCN c) i (xY y) ∈ wsG) ∨ (¬ z = 0 ∧ Cond.methodLinkNest (xCN c) i (xY y) xHost ∈ wsN)) := by
  unfold fM at h
  obtain ⟨q, hq, e⟩ := Option.map_eq_some_iff.mp h
  obtain ⟨h1, h2⟩ := xFind hq
  obtain ⟨c', i', y', z'⟩ := q
  cases e
  simp only [Bool.and_eq_true, beq_iff_eq] at h2
  obtain ⟨rfl, rfl⟩ := h2
  obtain ⟨b, hb⟩ := xRT_all _ h1
  simp only [xRok, Bool.and_eq_true, decide_eq_true_eq] at hb
  obtain ⟨a1, a2⟩ := hb
  refine ⟨a1, ?_⟩
  split at a2
  next hz => exact Or.inl ⟨hz, xAt_in a2⟩
  next hz => exact Or.inr ⟨hz, List.mem_filter.mpr ⟨List.mem_of_getElem? (of_decide_eq_true a2), rfl⟩⟩
theorem xM_ok (y : Nat) (h : y < 178) : Cond.code (xY y) (xB y) (xL y) (xRt y) ∈ wsG ∧ Cond.initialized (xY y).cls ∈ wsG ∧ (xY y).cls = xCN (xCl y) ∧ ((xY y).cls ≠ "java/lang/invoke/MethodHandle" ∧ (xY y).cls ≠ "java/lang/invoke/VarHandle") ∧ plainName (xY y).cls = true ∧ (parseMethodDescriptor (xY y).desc).map (fun d => d.parameters.length) = some (xAr y) ∧ xL y ≤ 16 ∧
    (xKd y = 0 → Cond.instanceMethod (xY y) ∈ wsG ∧ Cond.selects (xY y).cls (xY y) (xY y) ∈ wsG ∧ xCl y < 10) ∧ (xKd y = 1 → Cond.static (xY y) ∈ wsG) ∧ (xKd y = 2 → Cond.instanceMethod (xY y) ∈ wsG ∧ (xY y).name = "<init>" ∧ xRt y = none) := by
  obtain ⟨a, b, d, e, hk⟩ := xM_all y h
  simp only [xMok, Bool.and_eq_true, decide_eq_true_eq] at hk
  obtain ⟨⟨⟨⟨⟨⟨⟨h1, h2⟩, h3⟩, h4⟩, h5⟩, h6⟩, h7⟩, h8⟩ := hk
  refine ⟨xAt_in h1, xAt_in h2, h3, h4, h5, h6, h7, fun k => ?_, fun k => ?_, fun k => ?_⟩
  · change (xM y).2.2.2.2.2.1 = 0 at k
    rw [if_pos k] at h8
    simp only [Bool.and_eq_true, decide_eq_true_eq] at h8
    exact ⟨xAt_in h8.1.1, xAt_in h8.1.2, h8.2⟩
  · change (xM y).2.2.2.2.2.1 = 1 at k
    rw [if_neg (by rw [k]; decide), if_pos k] at h8
    exact xAt_in h8
  · change (xM y).2.2.2.2.2.1 = 2 at k
    rw [if_neg (by rw [k]; decide), if_neg (by rw [k]; decide)] at h8
    simp only [Bool.and_eq_true, decide_eq_true_eq] at h8
    exact ⟨xAt_in h8.1.1, h8.1.2, h8.2⟩
theorem wsG_good {w : Cond} (h : w ∈ wsG) : goodWord w = true := (List.mem_filter.mp h).2
theorem xW_good (y : Nat) (h : y < 178) : GoodIn wsG (xW y) := by
  intro w hw
  rcases List.mem_cons.mp hw with e | e
  · rw [e]; exact ⟨(xM_ok y h).1, good_of_word (wsG_good (xM_ok y h).1)⟩
  · exact ⟨e, good_of_word (wsG_good e)⟩
theorem xP_blind {D : va_G} {cA : Nat → ClassId} {sc : Cell} {w : Wd} {av : List Value} : FrameBlind (va_Pc av (xP D cA sc w)) := fun a U g mk h => ⟨h.1, h.2.1, KK.blind (u := U) (U := U.calling g mk a) rfl h.2.2⟩
theorem xcall_inv {f : xF} {y : Nat} {As : List Value} {w : Wd} {pc : Nat} {L : List (Nat × Value)} {st : List Value} {c' : xC} (h : xcall f y As w pc L st = some (.inr c')) : ∃ v w', f y As w = some (v, w') ∧ st.length ≤ 4 ∧ c' = (pc + 3, L, v.toList ++ st, w') := by
  unfold xcall at h
  split at h
  next hl =>
    split at h
    next v w' hv => exact ⟨v, w', hv, hl, nx_inv h⟩
    next => cases h
  next => cases h
section SND3
variable {p : Program} {l : Launch} {e : Env} {R : Room} {s : State} {m : MethodId} {args : Array Value} {below : List Frame} {meth : Method} {c : Code} {Q : State → Prop} {D : va_G} {cA : Nat → ClassId} {sc : Cell} {f : xF} {o bz bu : Nat}
theorem call_go {H : Heap} {locs : List Loc} {cells slots mc ms pc b : Nat} {ls : Array Slot} {st0 rest : List Value} {v : Option Value} {w' : Wd} {a : Array Value}
    (hr : va_Run p l e R s m args below meth c H locs cells slots mc ms (F0 m pc ls st0) rest (xQ D cA sc v w' a) (fun q => b ≤ q)) (hlo : ∀ q ∈ locs, b ≤ q.base)
    (kk : ∀ (H' : Heap) (locs' : List Loc), hw D cA sc w' H' → (∀ q ∈ locs', b ≤ q.base) → W p l e R s m args below meth c H' locs' (cells + mc) (slots + ms) Q (F0 m (pc + 3) ls (v.toList ++ rest))) : W p l e R s m args below meth c H locs cells slots Q (F0 m pc ls st0) := by
  intro T hT X
  obtain ⟨v0, st₀, t, T', L, h0, X', hL, e1, e2, ⟨hv, hb⟩, st⟩ := hr T hT X
  cases hv
  obtain ⟨t2, a1, b1⟩ := kk T'.heap (locs ++ L) (by rw [e1]; exact hb) (fun q hq => by
    rcases List.mem_append.mp hq with z | z
    · exact hlo q z
    · exact hL q z) T' rfl X'
  exact ⟨t2, st t2 a1, b1⟩
theorem st_split {st rest : List Value} {n : Nat} (h : st.drop n = rest) : st = (st.take n).reverse.reverse ++ rest := by
  rw [List.reverse_reverse, ← h, List.take_append_drop]
theorem xpar {y : Nat} (h : y < 178) : ∀ sig, parseMethodDescriptor (xY y).desc = some sig → xAr y = sig.parameters.length := by
  intro sig hs
  have h2 := (xM_ok y h).2.2.2.2.2.1
  rw [hs] at h2
  exact (Option.some.inj h2).symm
theorem room_of {st : List Value} (h : st.length ≤ 4) : (st.map fun v => v.category).sum ≤ 8 := Nat.le_trans (rest_sum st) (by omega)
variable {d : Nat}
theorem so_invokevirtual (C : Cx p s m args meth c D cA sc o) (hm0 : RunMo f) (hr0 : RunOK f d) (hRf : d + 1 ≤ R.frames) (hRl : 36 * d + 35 ≤ R.locals) (n : Nat) : StOK p l e R s m args below meth c Q D cA sc f o bz bu (.invokevirtual n) := by
  intro pc L st w c' len hd hk h
  obtain ⟨hx, hb, hml, hown, hts, hKK, hin⟩ := C
  dsimp only [stp1] at h
  dsimp only [okl] at hk
  replace hk := of_decide_eq_true hk
  dsimp only [iln] at hk
  subst hk
  cases hf : fM (xCl o) n with
  | none => rw [hf] at h; cases h
  | some q =>
    obtain ⟨y, z⟩ := q
    rw [hf] at h
    dsimp only at h
    split at h
    next b rest hdr =>
      split at h
      next hc =>
        obtain ⟨v, w', hrun, hlen, rfl⟩ := xcall_inv h
        obtain ⟨hy, hlink⟩ := fM_ok hf
        obtain ⟨hcode, hini, hcls, hmh, -, hpar, hmax, hv0, -, -⟩ := xM_ok y hy
        obtain ⟨hinst, hsel, hc10⟩ := hv0 hc.2.2
        have hmo := hm0 _ _ _ _ _ hrun
        refine ⟨hmo, fun H locs cells slots ls G h1 h2 kk => ?_⟩
        have g4 : cells + bz = w.2.1 := G.2.2.2.1
        have g5 : slots + bu = w.2.2.1 := G.2.2.2.2
        have h1' : w'.2.1 ≤ R.cells + bz := h1
        have h2' : w'.2.2.1 ≤ R.slots + bu := h2
        obtain ⟨m1, m2, m3⟩ := hmo
        obtain ⟨cb, hcb, hcb1⟩ : ∃ cb, w.2.2.2 b = some cb ∧ cb.1 = xCl y := by
          have h9 := hc.2.1
          unfold kd at h9
          split at h9
          next cv hv => exact ⟨cv, hv, h9⟩
          next => omega
        have hrecv : ∃ cellB : Cell, H[b]? = some cellB ∧ cellB.vm.isStatics = false ∧ s.vm.findClass (xY y).cls = some cellB.cls := by
          rcases G.1.2 b cb hcb with ⟨y1, cell, q1, q2, q3, -⟩ | ⟨y1, -⟩ | ⟨y1, -⟩
          · refine ⟨cell, q1, by rw [q3]; rfl, ?_⟩
            rw [q2, hcb1, hcls]
            exact (hKK.1.1 _ _ (xCls _ hc10)).2.1
          · omega
          · omega
        have M := hr0 l D cA sc y _ w v w' hy hrun
        have hG := xW_good y hy
        have hpre : PreV s H (xY y).cls b (va_Pc (.ref b :: (st.take (xAr y)).reverse) (xP D cA sc w)) (st.take (xAr y)).reverse :=
          ⟨xP_blind, hrecv, fun U hU hW => ⟨rfl, by rw [hU]; exact G.1, KK.moved hW hKK⟩⟩
        have hb2 : (rmD d (w'.2.1 - w.2.1) (w'.2.2.1 - w.2.2.1)).frames + 1 ≤ R.frames := hRf
        have hb3 : 8 + (xL y + 11) + (rmD d (w'.2.1 - w.2.1) (w'.2.2.1 - w.2.2.1)).locals ≤ R.locals := by show 8 + (xL y + 11) + 36 * d ≤ R.locals; omega
        have hrest := room_of hlen
        have est := st_split hdr
        have hr1 : va_Run p l e R s m args below meth c H locs cells slots (w'.2.1 - w.2.1) (w'.2.2.1 - w.2.2.1) (F0 m pc ls st) rest (xQ D cA sc v w' (Value.ref b :: (st.take (xAr y)).reverse).toArray) (fun q => w.1 ≤ q) := by
          rcases hlink with ⟨-, hl⟩ | ⟨-, hl⟩
          · exact va_runV (n := xAr y) ⟨hx, hb, hml, hown, hts⟩ M ⟨⟨rfl, rfl, hb2, hb3, pay_in hts hG, List.mem_cons_self, hts _ hcode, hts _ hini, hmh, xpar hy, hts _ hl⟩, hts _ hinst, hts _ hsel⟩ hpre rfl (by rw [List.length_reverse]; exact hc.1) G.2.1.1 est (lv_room hrest) hd ⟨by omega, by omega⟩
          · exact va_runVN (n := xAr y) ⟨hx, hb, hml, hown, hts⟩ M ⟨⟨⟨rfl, rfl, hb2, hb3, pay_in hts hG, List.mem_cons_self⟩, hts _ hcode, hts _ hini, hmh, xpar hy, va_Nw.use rfl (hKK.2.1 _ hl)⟩, hts _ hinst, hts _ hsel⟩ hpre rfl (by rw [List.length_reverse]; exact hc.1) G.2.1.1 est (lv_room hrest) hd ⟨by omega, by omega⟩
        refine call_go hr1 G.2.2.1 fun H' locs' hH' hl' => kk H' locs' _ _ ls ⟨hH', G.2.1, by rw [m1]; exact hl', ?_, ?_⟩
        · show cells + (w'.2.1 - w.2.1) + bz = w'.2.1; omega
        · show slots + (w'.2.2.1 - w.2.2.1) + bu = w'.2.2.1; omega
      next => cases h
    next => cases h
theorem so_invokestatic (C : Cx p s m args meth c D cA sc o) (hm0 : RunMo f) (hr0 : RunOK f d) (hRf : d + 1 ≤ R.frames) (hRl : 36 * d + 35 ≤ R.locals) (n : Nat) : StOK p l e R s m args below meth c Q D cA sc f o bz bu (.invokestatic n) := by
  intro pc L st w c' len hd hk h
  obtain ⟨hx, hb, hml, hown, hts, hKK, hin⟩ := C
  dsimp only [stp1] at h
  dsimp only [okl] at hk
  replace hk := of_decide_eq_true hk
  dsimp only [iln] at hk
  subst hk
  cases hf : fM (xCl o) n with
  | none =>
    rw [hf] at h
    dsimp only at h
    split at h
    next hj =>
      obtain ⟨y, r, e1, h9⟩ := sI_inv h
      clear h
      subst e1
      obtain ⟨x, r, e1, h8⟩ := sI_inv h9
      clear h9
      subst e1
      split at h8
      next hlen =>
        obtain rfl := nx_inv h8
        obtain ⟨b, hbk⟩ := xJT_all _ hj
        simp only [xJok, Bool.and_eq_true] at hbk
        obtain ⟨⟨⟨k1, k2⟩, k3⟩, k4⟩ := hbk
        refine ⟨mo.rf, fun H locs cells slots ls G h1 h2 kk => ?_⟩
        have g4 : cells + bz = w.2.1 := G.2.2.2.1
        have g5 : slots + bu = w.2.2.1 := G.2.2.2.2
        have h1' : w.2.1 ≤ R.cells + bz := h1
        have h2' : w.2.2.1 ≤ R.slots + bu := h2
        have hrest := room_of hlen
        exact va_mmax hx hb (hml.trans G.2.1.1.symm) hown (hts _ (xAt_in k1)) (hts _ (xAt_in k2)) (hts _ (xAt_in k3)) (hts _ (xAt_in k4)) (by omega) (by omega) (by omega) (by omega) hd (kk H locs cells slots ls G)
      next => cases h8
    next => cases h
  | some q =>
    obtain ⟨y, z⟩ := q
    rw [hf] at h
    dsimp only at h
    split at h
    next hc =>
      obtain ⟨v, w', hrun, hlen, rfl⟩ := xcall_inv h
      obtain ⟨hy, hlink⟩ := fM_ok hf
      obtain ⟨hcode, hini, hcls, hmh, -, hpar, hmax, -, hv1, -⟩ := xM_ok y hy
      have hstat := hv1 hc.2
      have hmo := hm0 _ _ _ _ _ hrun
      refine ⟨hmo, fun H locs cells slots ls G h1 h2 kk => ?_⟩
      have g4 : cells + bz = w.2.1 := G.2.2.2.1
      have g5 : slots + bu = w.2.2.1 := G.2.2.2.2
      have h1' : w'.2.1 ≤ R.cells + bz := h1
      have h2' : w'.2.2.1 ≤ R.slots + bu := h2
      obtain ⟨m1, m2, m3⟩ := hmo
      have M := hr0 l D cA sc y _ w v w' hy hrun
      have hG := xW_good y hy
      have hpre : PreS s H (va_Pc ((st.take (xAr y)).reverse) (xP D cA sc w)) (st.take (xAr y)).reverse :=
        ⟨xP_blind, fun U hU hW => ⟨rfl, by rw [hU]; exact G.1, KK.moved hW hKK⟩⟩
      have hb2 : (rmD d (w'.2.1 - w.2.1) (w'.2.2.1 - w.2.2.1)).frames + 1 ≤ R.frames := hRf
      have hb3 : 8 + (xL y + 11) + (rmD d (w'.2.1 - w.2.1) (w'.2.2.1 - w.2.2.1)).locals ≤ R.locals := by show 8 + (xL y + 11) + 36 * d ≤ R.locals; omega
      have hrest := room_of hlen
      have est := st_split (st := st) (n := xAr y) rfl
      have hr1 : va_Run p l e R s m args below meth c H locs cells slots (w'.2.1 - w.2.1) (w'.2.2.1 - w.2.2.1) (F0 m pc ls st) (st.drop (xAr y)) (xQ D cA sc v w' ((st.take (xAr y)).reverse).toArray) (fun q => w.1 ≤ q) := by
        rcases hlink with ⟨-, hl⟩ | ⟨-, hl⟩
        · exact va_runS (n := xAr y) ⟨hx, hb, hml, hown, hts⟩ M ⟨⟨rfl, rfl, hb2, hb3, pay_in hts hG, List.mem_cons_self, hts _ hcode, hts _ hini, hmh, xpar hy, hts _ hl⟩, hts _ hstat⟩ hpre rfl (by rw [List.length_reverse]; exact hc.1) G.2.1.1 est (lv_room hrest) hd ⟨by omega, by omega⟩
        · exact va_runSN (n := xAr y) ⟨hx, hb, hml, hown, hts⟩ M ⟨⟨⟨rfl, rfl, hb2, hb3, pay_in hts hG, List.mem_cons_self⟩, hts _ hcode, hts _ hini, hmh, xpar hy, va_Nw.use rfl (hKK.2.1 _ hl)⟩, hts _ hstat, trivial⟩ hpre rfl (by rw [List.length_reverse]; exact hc.1) G.2.1.1 est (lv_room hrest) hd ⟨by omega, by omega⟩
      refine call_go hr1 G.2.2.1 fun H' locs' hH' hl' => kk H' locs' _ _ ls ⟨hH', G.2.1, by rw [m1]; exact hl', ?_, ?_⟩
      · show cells + (w'.2.1 - w.2.1) + bz = w'.2.1; omega
      · show slots + (w'.2.2.1 - w.2.2.1) + bu = w'.2.2.1; omega
    next => cases h
theorem so_invokespecial (C : Cx p s m args meth c D cA sc o) (hm0 : RunMo f) (hr0 : RunOK f d) (hRf : d + 1 ≤ R.frames) (hRl : 36 * d + 35 ≤ R.locals) (n : Nat) : StOK p l e R s m args below meth c Q D cA sc f o bz bu (.invokespecial n) := by
  intro pc L st w c' len hd hk h
  obtain ⟨hx, hb, hml, hown, hts, hKK, hin⟩ := C
  dsimp only [stp1] at h
  dsimp only [okl] at hk
  replace hk := of_decide_eq_true hk
  dsimp only [iln] at hk
  subst hk
  split at h
  next hj =>
    obtain ⟨a, r, e1, h9⟩ := sA_inv h
    clear h
    subst e1
    split at h9
    next hlen =>
      obtain rfl := nx_inv h9
      obtain ⟨b, hbk⟩ := xOT_all _ hj
      have hobj := xObj_ok
      simp only [Bool.and_eq_true] at hobj
      refine ⟨mo.rf, fun H locs cells slots ls G h1 h2 kk => ?_⟩
      have hrest := lv_room (m := m) (pc := pc) (rest := Value.ref a :: r) (ls := ls) (room_of hlen)
      exact W.objInit hx hb hown (hts _ (xAt_in hbk)) (hts _ (xAt_in hobj.1.1.1)) (hts _ (xAt_in hobj.1.1.2)) rfl (G.2.1.1.trans hml.symm) rfl hd (by omega) (by omega) (kk H locs cells slots ls G)
    next => cases h9
  next =>
    cases hf : fM (xCl o) n with
    | none => rw [hf] at h; cases h
    | some q =>
      obtain ⟨y, z⟩ := q
      rw [hf] at h
      dsimp only at h
      split at h
      next b rest hdr =>
        split at h
        next hc =>
          obtain ⟨v, w', hrun, hlen, rfl⟩ := xcall_inv h
          obtain ⟨hy, hlink⟩ := fM_ok hf
          obtain ⟨hcode, hini, hcls, hmh, -, hpar, hmax, -, -, hv2⟩ := xM_ok y hy
          obtain ⟨hinst, hname, hret⟩ := hv2 hc.2
          have hmo := hm0 _ _ _ _ _ hrun
          refine ⟨hmo, fun H locs cells slots ls G h1 h2 kk => ?_⟩
          have g4 : cells + bz = w.2.1 := G.2.2.2.1
          have g5 : slots + bu = w.2.2.1 := G.2.2.2.2
          have h1' : w'.2.1 ≤ R.cells + bz := h1
          have h2' : w'.2.2.1 ≤ R.slots + bu := h2
          obtain ⟨m1, m2, m3⟩ := hmo
          have M := hr0 l D cA sc y _ w v w' hy hrun
          have hG := xW_good y hy
          have hpre : PreS s H (va_Pc (.ref b :: (st.take (xAr y)).reverse) (xP D cA sc w)) (.ref b :: (st.take (xAr y)).reverse) :=
            ⟨xP_blind, fun U hU hW => ⟨rfl, by rw [hU]; exact G.1, KK.moved hW hKK⟩⟩
          have hb2 : (rmD d (w'.2.1 - w.2.1) (w'.2.2.1 - w.2.2.1)).frames + 1 ≤ R.frames := hRf
          have hb3 : 8 + (xL y + 11) + (rmD d (w'.2.1 - w.2.1) (w'.2.2.1 - w.2.2.1)).locals ≤ R.locals := by show 8 + (xL y + 11) + 36 * d ≤ R.locals; omega
          have hrest := room_of hlen
          have est := st_split hdr
          have hcin : Cond.code (xY y) (xB y) (xL y) none ∈ xW y := by rw [← hret]; exact List.mem_cons_self
          rw [hret] at hcode
          have hr1 : va_Run p l e R s m args below meth c H locs cells slots (w'.2.1 - w.2.1) (w'.2.2.1 - w.2.2.1) (F0 m pc ls st) rest (xQ D cA sc v w' (Value.ref b :: (st.take (xAr y)).reverse).toArray) (fun q => w.1 ≤ q) := by
            rcases hlink with ⟨-, hl⟩ | ⟨-, hl⟩
            · exact va_runI (n := xAr y) ⟨hx, hb, hml, hown, hts⟩ M ⟨⟨rfl, rfl, hb2, hb3, pay_in hts hG, hcin, hts _ hcode, hts _ hini, hmh, xpar hy, hts _ hl⟩, hname, hts _ hinst⟩ hpre rfl (by rw [List.length_reverse]; exact hc.1) G.2.1.1 est (lv_room hrest) hd ⟨by omega, by omega⟩
            · exact va_runIN (n := xAr y) ⟨hx, hb, hml, hown, hts⟩ M ⟨⟨⟨rfl, rfl, hb2, hb3, pay_in hts hG, hcin⟩, hts _ hcode, hts _ hini, hmh, xpar hy, va_Nw.use rfl (hKK.2.1 _ hl)⟩, hname, hts _ hinst⟩ hpre rfl (by rw [List.length_reverse]; exact hc.1) G.2.1.1 est (lv_room hrest) hd ⟨by omega, by omega⟩
          refine call_go hr1 G.2.2.1 fun H' locs' hH' hl' => kk H' locs' _ _ ls ⟨hH', G.2.1, by rw [m1]; exact hl', ?_, ?_⟩
          · show cells + (w'.2.1 - w.2.1) + bz = w'.2.1; omega
          · show slots + (w'.2.2.1 - w.2.2.1) + bu = w'.2.2.1; omega
        next => cases h
      next => cases h
theorem so_all (C : Cx p s m args meth c D cA sc o) (hm0 : RunMo f) (hr0 : RunOK f d) (hRf : d + 1 ≤ R.frames) (hRl : 36 * d + 35 ≤ R.locals) (i : Instr) : StOK p l e R s m args below meth c Q D cA sc f o bz bu i := by
  cases i
  case aload_n => exact so_aload_n C _
  case aload => exact so_aload C _
  case iload_n => exact so_iload_n C _
  case iload => exact so_iload C _
  case lload_n => exact so_lload_n C _
  case lload => exact so_lload C _
  case istore_n => exact so_istore_n C _
  case istore => exact so_istore C _
  case lstore_n => exact so_lstore_n C _
  case lstore => exact so_lstore C _
  case astore_n => exact so_astore_n C _
  case astore => exact so_astore C _
  case iinc => exact so_iinc C _ _
  case iconst => exact so_iconst C _
  case bipush => exact so_bipush C _
  case sipush => exact so_sipush C _
  case lconst => exact so_lconst C _
  case aconst_null => exact so_aconst_null C
  case ldc => exact so_ldc C _
  case dup => exact so_dup C
  case dup2 => exact so_dup2 C
  case pop => exact so_pop C
  case iadd => exact so_iadd C
  case isub => exact so_isub C
  case imul => exact so_imul C
  case iand => exact so_iand C
  case ishr => exact so_ishr C
  case land => exact so_land C
  case lor => exact so_lor C
  case lshl => exact so_lshl C
  case lshr => exact so_lshr C
  case lcmp => exact so_lcmp C
  case idiv => exact so_idiv C
  case ineg => exact so_ineg C
  case i2c => exact so_i2c C
  case ifCond => exact so_ifCond C _ _
  case if_icmp => exact so_if_icmp C _ _
  case ifnull => exact so_ifnull C _
  case ifnonnull => exact so_ifnonnull C _
  case goto => exact so_goto C _
  case tableswitch => exact so_tableswitch C _ _ _ _
  case lookupswitch => exact so_lookupswitch C _ _
  case getfield => exact so_getfield C _
  case putfield => exact so_putfield C _
  case iaload => exact so_iaload C
  case caload => exact so_caload C
  case aaload => exact so_aaload C
  case iastore => exact so_iastore C
  case castore => exact so_castore C
  case aastore => exact so_aastore C
  case arraylength => exact so_arraylength C
  case new => exact so_new C _
  case newarray => exact so_newarray C _
  case anewarray => exact so_anewarray C _
  case invokevirtual => exact so_invokevirtual C hm0 hr0 hRf hRl _
  case invokestatic => exact so_invokestatic C hm0 hr0 hRf hRl _
  case invokespecial => exact so_invokespecial C hm0 hr0 hRf hRl _
  case ireturn =>
    intro pc L st w c' len hd hk h
    dsimp only [stp1] at h
    split at h
    · split at h
      · split at h <;> cases h
      · cases h
    · cases h
  case areturn =>
    intro pc L st w c' len hd hk h
    dsimp only [stp1] at h
    split at h
    · split at h <;> cases h
    · split at h <;> cases h
    · cases h
  case return_ =>
    intro pc L st w c' len hd hk h
    dsimp only [stp1] at h
    split at h
    · split at h <;> cases h
    · cases h
  all_goals
    intro pc L st w c' len hd hk h
    dsimp only [stp1] at h
    cases h
end SND3
end
section
/-! whole methods: what our machine says, the machine does -/
/-- no result yet -/
def NI (x : xO) : Prop := ∀ r, x ≠ some (.inl r)
theorem ni_none : NI none := fun r h => by cases h
theorem ni_nx {pc : Nat} {L : List (Nat × Value)} {st : List Value} {w : Wd} : NI (nx pc L st w) := fun r h => nx_inl h
theorem ni_sI {st : List Value} {f : Int32 → List Value → xO} (h : ∀ x r, NI (f x r)) : NI (sI st f) := fun r e => by obtain ⟨x, q, -, k⟩ := sI_inv e; exact h x q r k
theorem ni_sL {st : List Value} {f : Int64 → List Value → xO} (h : ∀ x r, NI (f x r)) : NI (sL st f) := fun r e => by obtain ⟨x, q, -, k⟩ := sL_inv e; exact h x q r k
theorem ni_sA {st : List Value} {f : Nat → List Value → xO} (h : ∀ x r, NI (f x r)) : NI (sA st f) := fun r e => by obtain ⟨x, q, -, k⟩ := sA_inv e; exact h x q r k
theorem ni_sA0 {st : List Value} {f : Value → List Value → xO} (h : ∀ x r, NI (f x r)) : NI (sA0 st f) := fun r e => by
  rcases sA0_inv e with ⟨x, q, -, k⟩ | ⟨q, -, k⟩
  · exact h _ q r k
  · exact h _ q r k
theorem ni_oI {v : Option Value} {f : Int32 → xO} (h : ∀ x, NI (f x)) : NI (oI v f) := fun r e => by obtain ⟨x, -, k⟩ := oI_inv e; exact h x r k
theorem ni_oL {v : Option Value} {f : Int64 → xO} (h : ∀ x, NI (f x)) : NI (oL v f) := fun r e => by obtain ⟨x, -, k⟩ := oL_inv e; exact h x r k
theorem ni_oA {v : Option Value} {f : Value → xO} (h : ∀ x, NI (f x)) : NI (oA v f) := fun r e => by
  rcases oA_inv e with ⟨x, -, k⟩ | ⟨-, k⟩
  · exact h _ r k
  · exact h _ r k
theorem ni_jmp {pc : Nat} {off : Int} {f : Nat → xO} (h : ∀ t, NI (f t)) : NI (jmp pc off f) := fun r e => by obtain ⟨t, -, k⟩ := jmp_inv e; exact h t r k
theorem ni_call {f : xF} {y : Nat} {As : List Value} {w : Wd} {pc : Nat} {L : List (Nat × Value)} {st : List Value} : NI (xcall f y As w pc L st) := fun r e => by
  unfold xcall at e
  split at e
  · split at e
    · exact nx_inl e
    · cases e
  · cases e
theorem ni_stp {f : xF} {o pc : Nat} {L : List (Nat × Value)} {st : List Value} {w : Wd} (i : Instr) (h1 : i ≠ .ireturn) (h2 : i ≠ .areturn) (h3 : i ≠ .return_) : NI (stp1 f o pc L st w i) := by
  cases i
  case ireturn => exact absurd rfl h1
  case areturn => exact absurd rfl h2
  case return_ => exact absurd rfl h3
  all_goals
    clear h1 h2 h3
    dsimp only [stp1]
    repeat' first
      | exact ni_none
      | exact ni_nx
      | exact ni_call
      | (refine ni_sI fun _ _ => ?_)
      | (refine ni_sL fun _ _ => ?_)
      | (refine ni_sA fun _ _ => ?_)
      | (refine ni_sA0 fun _ _ => ?_)
      | (refine ni_oI fun _ => ?_)
      | (refine ni_oL fun _ => ?_)
      | (refine ni_oA fun _ => ?_)
      | (refine ni_jmp fun _ => ?_)
      | split
/-- a result leaves the cells as they are -/
theorem ret_same {f : xF} {o pc : Nat} {L : List (Nat × Value)} {st : List Value} {w : Wd} {i : Instr} {v : Option Value} {w' : Wd} (h : stp1 f o pc L st w i = some (.inl (v, w'))) : w' = w := by
  by_cases h1 : i = .ireturn
  · subst h1
    dsimp only [stp1] at h
    split at h
    · split at h
      · split at h <;> cases h; rfl
      · cases h
    · cases h
  by_cases h2 : i = .areturn
  · subst h2
    dsimp only [stp1] at h
    split at h
    · split at h <;> cases h <;> rfl
    · split at h <;> cases h <;> rfl
    · cases h
  by_cases h3 : i = .return_
  · subst h3
    dsimp only [stp1] at h
    split at h
    · split at h <;> cases h; rfl
    · cases h
  exact absurd h (ni_stp i h1 h2 h3 _)
/-- cells only come -/
def MI (w : Wd) (x : xO) : Prop := ∀ c, x = some (.inr c) → mo w c.2.2.2
theorem mi_none {w : Wd} : MI w none := fun c h => by cases h
theorem mi_inl {w : Wd} {r : xR} : MI w (some (.inl r)) := fun c h => by cases h
theorem mi_nx {w w' : Wd} {pc : Nat} {L : List (Nat × Value)} {st : List Value} (h : mo w w') : MI w (nx pc L st w') := fun c e => by rw [nx_inv e]; exact h
theorem mi_sI {w : Wd} {st : List Value} {f : Int32 → List Value → xO} (h : ∀ x r, MI w (f x r)) : MI w (sI st f) := fun r e => by obtain ⟨x, q, -, k⟩ := sI_inv e; exact h x q r k
theorem mi_sL {w : Wd} {st : List Value} {f : Int64 → List Value → xO} (h : ∀ x r, MI w (f x r)) : MI w (sL st f) := fun r e => by obtain ⟨x, q, -, k⟩ := sL_inv e; exact h x q r k
theorem mi_sA {w : Wd} {st : List Value} {f : Nat → List Value → xO} (h : ∀ x r, MI w (f x r)) : MI w (sA st f) := fun r e => by obtain ⟨x, q, -, k⟩ := sA_inv e; exact h x q r k
theorem mi_sA0 {w : Wd} {st : List Value} {f : Value → List Value → xO} (h : ∀ x r, MI w (f x r)) : MI w (sA0 st f) := fun r e => by
  rcases sA0_inv e with ⟨x, q, -, k⟩ | ⟨q, -, k⟩
  · exact h _ q r k
  · exact h _ q r k
theorem mi_oI {w : Wd} {v : Option Value} {f : Int32 → xO} (h : ∀ x, MI w (f x)) : MI w (oI v f) := fun r e => by obtain ⟨x, -, k⟩ := oI_inv e; exact h x r k
theorem mi_oL {w : Wd} {v : Option Value} {f : Int64 → xO} (h : ∀ x, MI w (f x)) : MI w (oL v f) := fun r e => by obtain ⟨x, -, k⟩ := oL_inv e; exact h x r k
theorem mi_oA {w : Wd} {v : Option Value} {f : Value → xO} (h : ∀ x, MI w (f x)) : MI w (oA v f) := fun r e => by
  rcases oA_inv e with ⟨x, -, k⟩ | ⟨-, k⟩
  · exact h _ r k
  · exact h _ r k
theorem mi_jmp {w : Wd} {pc : Nat} {off : Int} {f : Nat → xO} (h : ∀ t, MI w (f t)) : MI w (jmp pc off f) := fun r e => by obtain ⟨t, -, k⟩ := jmp_inv e; exact h t r k
theorem mi_call {f : xF} {y : Nat} {As : List Value} {w : Wd} {pc : Nat} {L : List (Nat × Value)} {st : List Value} (hf : RunMo f) : MI w (xcall f y As w pc L st) := fun c e => by
  obtain ⟨v, w', h, -, rfl⟩ := xcall_inv e
  exact hf _ _ _ _ _ h
theorem pf_mo {w w' : Wd} {a c k : Nat} {v : Value} (h : pf w a c k v = some w') : mo w w' := by
  unfold pf at h
  split at h
  · split at h
    · cases h; exact ⟨rfl, Nat.le_refl _, Nat.le_refl _⟩
    · cases h
  · cases h
theorem ap_mo {w w' : Wd} {a lo hi : Nat} {j : Int32} {v : Value} (h : ap w a lo hi j v = some w') : mo w w' := by
  unfold ap at h
  split at h
  · split at h
    · cases h; exact ⟨rfl, Nat.le_refl _, Nat.le_refl _⟩
    · cases h
  · cases h
theorem wnew_mo {w : Wd} {c : HC} : mo w (wnew w c) := ⟨rfl, Nat.le_succ _, Nat.le_add_right _ _⟩
theorem mi_stp {f : xF} (hf : RunMo f) {o pc : Nat} {L : List (Nat × Value)} {st : List Value} {w : Wd} (i : Instr) : MI w (stp1 f o pc L st w i) := by
  cases i
  all_goals
    dsimp only [stp1]
    repeat' first
      | exact mi_none
      | exact mi_inl
      | exact mi_nx mo.rf
      | exact mi_nx (pf_mo (by assumption))
      | exact mi_nx (ap_mo (by assumption))
      | exact mi_nx wnew_mo
      | exact mi_call hf
      | (refine mi_sI fun _ _ => ?_)
      | (refine mi_sL fun _ _ => ?_)
      | (refine mi_sA fun _ _ => ?_)
      | (refine mi_sA0 fun _ _ => ?_)
      | (refine mi_oI fun _ => ?_)
      | (refine mi_oL fun _ => ?_)
      | (refine mi_oA fun _ => ?_)
      | (refine mi_jmp fun _ => ?_)
      | split
theorem ex_mo {f : xF} (hf : RunMo f) {o : Nat} : ∀ (n : Nat) (c0 : xC) (r : xR), ex f o n c0 = some r → mo c0.2.2.2 r.2 := by
  intro n
  induction n with
  | zero => intro c0 r h; simp [ex] at h
  | succ n ih =>
    intro c0 r h
    obtain ⟨pc, L, st, w⟩ := c0
    rw [ex] at h
    unfold xst at h
    cases hd : decode (xB o) pc with
    | error z => simp only [hd] at h; cases h
    | ok q =>
      obtain ⟨i, len⟩ := q
      simp only [hd] at h
      unfold stp at h
      by_cases hk : okl i len = true
      · rw [if_pos hk] at h
        cases hs : stp1 f o pc L st w i with
        | none => rw [hs] at h; cases h
        | some z =>
          rw [hs] at h
          cases z with
          | inl r' =>
            have e1 : r' = r := Option.some.inj h
            subst e1
            obtain ⟨v, w'⟩ := r'
            have e2 := ret_same hs
            subst e2
            exact mo.rf
          | inr c' => exact mo.tr (mi_stp hf i c' hs) (ih c' r h)
      · rw [if_neg hk] at h; cases h
theorem run_mo : ∀ (d : Nat), RunMo (run d) := by
  intro d
  induction d with
  | zero => intro o args w v w' h; simp [run] at h
  | succ d ih =>
    intro o args w v w' h
    rw [run] at h
    split at h
    · obtain ⟨n, hn⟩ := X0_iff.mp h
      exact ex_mo ih n _ _ hn
    · cases h
section SND4
variable {p : Program} {l : Launch} {e : Env} {R : Room} {s : State} {m : MethodId} {args : Array Value} {below : List Frame} {meth : Method} {c : Code} {Q : State → Prop} {D : va_G} {cA : Nat → ClassId} {sc : Cell} {f : xF} {o bz bu d : Nat}
theorem so_ret {Qc : Array Value → State → Outcome → State → Prop} {free : Addr → Prop} (hx : p.tables.exec = Jvm.exec) (hb : c.code = xB o) (hr : meth.sig.returnType = xRt o) (hlocks : meth.locks = false) {pc : Nat} {L : List (Nat × Value)} {st : List Value} {w : Wd} {i : Instr} {len : Nat} {v : Option Value} {w' : Wd} {H : Heap} {locs : List Loc} {cells slots : Nat} {ls : Array Slot}
    (hd : decode (xB o) pc = .ok (i, len)) (hk : okl i len = true) (h : stp1 f o pc L st w i = some (.inl (v, w'))) (hq : ∀ t : State, t.heap = H → s.WarmedH t.vm → Qc args s (.returned v) t) (hf : ∀ q ∈ locs, free q.base) :
    W p l e R s m args below meth c H locs cells slots (MQ below Qc args s cells slots free) (F0 m pc ls st) := by
  cases i
  case ireturn =>
    dsimp only [okl] at hk
    replace hk := of_decide_eq_true hk
    dsimp only [iln] at hk
    subst hk
    dsimp only [stp1] at h
    split at h
    next x =>
      split at h
      next ty hty =>
        split at h
        next hn =>
          cases h
          exact W.zret hx hb (hr.trans hty) hn hq hf hd hlocks
        next => cases h
      next => cases h
    next => cases h
  case areturn =>
    dsimp only [okl] at hk
    replace hk := of_decide_eq_true hk
    dsimp only [iln] at hk
    subst hk
    dsimp only [stp1] at h
    split at h
    next a =>
      split at h
      next n hty => cases h; exact W.aret hx hb (hr.trans hty) (Or.inl ⟨_, rfl⟩) (Or.inr ⟨_, rfl⟩) hq hf hd hlocks
      next n hty => cases h; exact W.aret hx hb (hr.trans hty) (Or.inr ⟨_, rfl⟩) (Or.inr ⟨_, rfl⟩) hq hf hd hlocks
      next => cases h
    next =>
      split at h
      next n hty => cases h; exact W.aret hx hb (hr.trans hty) (Or.inl ⟨_, rfl⟩) (Or.inl rfl) hq hf hd hlocks
      next n hty => cases h; exact W.aret hx hb (hr.trans hty) (Or.inr ⟨_, rfl⟩) (Or.inl rfl) hq hf hd hlocks
      next => cases h
    next => cases h
  case return_ =>
    dsimp only [okl] at hk
    replace hk := of_decide_eq_true hk
    dsimp only [iln] at hk
    subst hk
    dsimp only [stp1] at h
    split at h
    next =>
      split at h
      next hn =>
        cases h
        exact W.vret hx hb (hr.trans hn) hq hf hd hlocks
      next => cases h
    next => cases h
  all_goals exact absurd h (ni_stp _ (fun z => by cases z) (fun z => by cases z) (fun z => by cases z) _)
theorem ex_ok (C : Cx p s m args meth c D cA sc o) (hm0 : RunMo f) (hr0 : RunOK f d) (hRf : d + 1 ≤ R.frames) (hRl : 36 * d + 35 ≤ R.locals) :
    ∀ (n : Nat) (c0 : xC) (r : xR), ex f o n c0 = some r → mo c0.2.2.2 r.2 ∧ ∀ (H : Heap) (locs : List Loc) (cells slots : Nat) (ls : Array Slot), GG D cA sc o bz bu c0.2.2.2 c0.2.1 H locs cells slots ls → r.2.2.1 ≤ R.cells + bz → r.2.2.2.1 ≤ R.slots + bu →
      (∀ (pc : Nat) (L : List (Nat × Value)) (st : List Value) (i : Instr) (len : Nat) (H' : Heap) (locs' : List Loc) (cells' slots' : Nat) (ls' : Array Slot), GG D cA sc o bz bu r.2 L H' locs' cells' slots' ls' → decode (xB o) pc = .ok (i, len) → okl i len = true → stp1 f o pc L st r.2 i = some (.inl r) → W p l e R s m args below meth c H' locs' cells' slots' Q (F0 m pc ls' st)) →
      W p l e R s m args below meth c H locs cells slots Q (F0 m c0.1 ls c0.2.2.1) := by
  intro n
  induction n with
  | zero => intro c0 r h; simp [ex] at h
  | succ n ih =>
    intro c0 r h
    obtain ⟨pc, L, st, w⟩ := c0
    rw [ex] at h
    unfold xst at h
    cases hd : decode (xB o) pc with
    | error z => simp only [hd] at h; cases h
    | ok q =>
      obtain ⟨i, len⟩ := q
      simp only [hd] at h
      unfold stp at h
      by_cases hk : okl i len = true
      · rw [if_pos hk] at h
        cases hs : stp1 f o pc L st w i with
        | none => rw [hs] at h; cases h
        | some z =>
          rw [hs] at h
          cases z with
          | inl r' =>
            have e1 : r' = r := Option.some.inj h
            subst e1
            obtain ⟨v, w'⟩ := r'
            have e2 := ret_same hs
            subst e2
            exact ⟨mo.rf, fun H locs cells slots ls G h1 h2 kk => kk pc L st i len H locs cells slots ls G hd hk hs⟩
          | inr c' =>
            obtain ⟨m1, k1⟩ := so_all (p := p) (l := l) (e := e) (R := R) (s := s) (m := m) (args := args) (below := below) (meth := meth) (c := c) (Q := Q) (bz := bz) (bu := bu) C hm0 hr0 hRf hRl i pc L st w c' len hd hk hs
            obtain ⟨m2, k2⟩ := ih c' r h
            refine ⟨mo.tr m1 m2, fun H locs cells slots ls G h1 h2 kk => ?_⟩
            exact k1 H locs cells slots ls G (Nat.le_trans m2.2.1 h1) (Nat.le_trans m2.2.2 h2) fun H' locs' cells' slots' ls' G' => k2 H' locs' cells' slots' ls' G' h1 h2 kk
      · rw [if_neg hk] at h; cases h
end SND4
theorem run_ok : ∀ (d : Nat), RunOK (run d) d := by
  intro d
  induction d with
  | zero => intro l D cA sc o args w v w' ho h; simp [run] at h
  | succ d ih =>
    intro l D cA sc o args w v w' ho h
    by_cases hlen : (lg_sl args).length ≤ xL o
    case neg => rw [run, if_neg hlen] at h; cases h
    rw [run, if_pos hlen] at h
    obtain ⟨n, hn⟩ := X0_iff.mp h
    obtain ⟨hcode, hini, hcls, hmh, hplain, hpar, hmax, hv0, hv1, hv2⟩ := xM_ok o ho
    refine Met.ofW (cc := xB o) (maxL := xL o) (ret := xRt o) hplain rfl ?_
    intro p e s m vs below meth c s₁ B hml hv
    obtain ⟨rfl, hH, hKK⟩ := hv
    have hx := B.exec
    have hb := B.bytes
    have hr := B.returns
    have hts : ∀ w ∈ xW o, w.before args.toArray s = true := atoms_spec (ws := xW o) B.pre
    have hown : s.vm.findClass (xY o).cls = some m.cls := findClass_of_methodNamed B.named
    have hlocks := B.notSynchronized
    have hin : meth.name = (xY o).name := (name_of_methodNamed B.named B.method).1
    have C : Cx p s m args.toArray meth c D cA sc o := ⟨hx, hb, hml, by rw [← hcls]; exact hown, fun w hw => hts w (List.mem_cons_of_mem _ hw), hKK, fun k => hin.trans (hv2 k).2.1⟩
    have hl := lv_entry args (n := xL o) hlen
    rw [lg_entry_eq]
    have key := ex_ok (l := l) (e := e) (R := (headSpec (xW o) (rmD (d + 1) (w'.2.1 - w.2.1) (w'.2.2.1 - w.2.2.1))).room) (below := below) (bz := w.2.1) (bu := w.2.2.1) (Q := MQ below (xQ D cA sc v w') args.toArray s (w'.2.1 - w.2.1) (w'.2.2.1 - w.2.2.1) (fun q => w.1 ≤ q)) C (run_mo d) ih (Nat.le_refl _) (by show 36 * d + 35 ≤ 36 * (d + 1); omega) n _ _ hn
    obtain ⟨⟨m1, m2, m3⟩, k⟩ := key
    refine k s.heap [] 0 0 _ ⟨hH, hl, (fun q (hq : q ∈ []) => absurd hq List.not_mem_nil), Nat.zero_add _, Nat.zero_add _⟩ ?_ ?_ ?_
    · show w'.2.1 ≤ w'.2.1 - w.2.1 + w.2.1
      have : w.2.1 ≤ w'.2.1 := m2
      omega
    · show w'.2.2.1 ≤ w'.2.2.1 - w.2.2.1 + w.2.2.1
      have : w.2.2.1 ≤ w'.2.2.1 := m3
      omega
    · intro pc L st i len H' locs' cells' slots' ls' G hd hk hs
      have g4 : cells' + w.2.1 = w'.2.1 := G.2.2.2.1
      have g5 : slots' + w.2.2.1 = w'.2.2.1 := G.2.2.2.2
      obtain rfl : cells' = w'.2.1 - w.2.1 := by omega
      obtain rfl : slots' = w'.2.2.1 - w.2.2.1 := by omega
      exact so_ret hx hb hr hlocks hd hk hs (fun t ht _ => ⟨rfl, by rw [ht]; exact G.1⟩) (fun q hq => by have := G.2.2.1 q hq; show w.1 ≤ q.base; have e9 : w'.1 = w.1 := m1; rw [← e9]; exact this)
end
