/** Boundary cases of promises 12 to 19: clientOf, chapterOf, phraseOf, find, on, tells, alike, count. */
public final class WhatThereIsEdgesTest {
    private static final int INVALID = LentPhrases.INVALID_ARGUMENT;
    private static final int NOT_POSSIBLE = LentPhrases.NOT_POSSIBLE;
    private static final int NOT_FOUND = LentPhrases.NOT_FOUND;
    private static final String OUT_OF_RANGE = "Returns the number; INVALID_ARGUMENT if an argument is out of range.";

    public static void main(String[] args) {
        emptyBook();
        fullBook();
        clientOfClient();
        clientOfWhat();
        emptyAndFullChapter();
        chapterOfBuyBack();
        chapterOfChapter();
        chapterOfWhat();
        phraseOfWords();
        phraseOfPlaces();
        phraseOfPhrase();
        phraseOfWhat();
        phraseOfReturns();
        findWords();
        findOutOfRange();
        findReturns();
        onEmptyAndFullPage();
        onPlacesLeft();
        onOutOfRange();
        onReturns();
        tellsOfVoices();
        tellsOutOfRange();
        tellsReturns();
        alikeInABook();
        alikePhrase();
        alikeReturns();
        countOfAll();
        countOfFirstWords();
        countOutOfRange();
        Checks.finish("WhatThereIsEdgesTest");
    }

    /** All phrases on the first eight pages of chapter 0; its client has the voice 0, as six of them have. */
    private static LentPhrases allPlaced() {
        LentPhrases x = Books.allPhrases();
        for (int i = 0; i < 24; i++) {
            x.place(i, 0, i / 3);
        }
        return x;
    }

    private static void emptyBook() {
        Edges.says(12, "Returns something of a client.");
        LentPhrases x = new LentPhrases();
        x.client(3, 9999);
        int[] without = {3, 9999, 0, 0, 0, 0, 0};
        for (int what = 0; what <= 6; what++) {
            Edges.due("clientOf(0, " + what + ") without chapters", x.clientOf(0, what), without[what]);
        }
        x.chapter(0, 20, 0);
        x.phrase(0, 1, -1, -1);
        int[] empty = {3, 9999, 1, 0, 0, 0, 0};
        for (int what = 0; what <= 6; what++) {
            Edges.due("clientOf(0, " + what + ") without phrases", x.clientOf(0, what), empty[what]);
        }
    }

    private static void fullBook() {
        Edges.says(12, "`what`: 0: the voice; 1: the purse; 2: chapters; 3: phrases in the book (lent ones too); 4: "
            + "phrases lent to the book; 5: phrases lent from it (whose home is in it); 6: tells in the book");
        LentPhrases x = allPlaced();
        int[] full = {0, 500, 1, 24, 0, 0, 18};
        for (int what = 0; what <= 6; what++) {
            Edges.due("clientOf(0, " + what + "), all phrases", x.clientOf(0, what), full[what]);
        }
        x.client(3, 500);
        x.chapter(1, 1, 0);
        x.lend(0, 1, 0, 1);
        x.lend(3, 1, 0, 1);
        x.lend(6, 1, 0, 1);
        int[] lender = {0, 515, 1, 21, 0, 3, 16};
        int[] borrower = {3, 485, 1, 3, 3, 0, 2};
        for (int what = 0; what <= 6; what++) {
            Edges.due("clientOf(0, " + what + "), three lent", x.clientOf(0, what), lender[what]);
            Edges.due("clientOf(1, " + what + "), three lent", x.clientOf(1, what), borrower[what]);
        }
        x.buyBack(0);
        int[] gone = {0, 515, 0, 0, 0, 0, 0};
        for (int what = 0; what <= 6; what++) {
            Edges.due("clientOf(0, " + what + "), their home gone", x.clientOf(0, what), gone[what]);
            Edges.due("clientOf(1, " + what + "), their home gone", x.clientOf(1, what), borrower[what]);
        }
    }

    private static void clientOfClient() {
        Edges.says(12, "`client`: number of the client");
        LentPhrases x = Books.fiveClients();
        Edges.due("the least", x.clientOf(0, 1), 0);
        Edges.due("the greatest", x.clientOf(4, 1), 40);
        Edges.refusedOutside(Books::fiveClients, "clientOf(?, 0)", 0, 4, (y, client) -> y.clientOf(client, 0));
        Edges.refusedOutside(Books::two, "clientOf(?, 6)", 0, 1, (y, client) -> y.clientOf(client, 6));
    }

    private static void clientOfWhat() {
        Edges.says(12, OUT_OF_RANGE);
        Edges.refusedOutside(Books::loan, "clientOf(1, ?)", 0, 6, (y, what) -> y.clientOf(1, what));
    }

    private static void emptyAndFullChapter() {
        Edges.says(13, "`what`: 0: its client; 1: its pages; 2: its price; 3: the day on which it was bought; 4: "
            + "phrases on its pages; 5: what buyBack() would pay");
        LentPhrases x = new LentPhrases();
        x.client(0, 999);
        x.pass(1);
        x.chapter(0, 20, 999);
        int[] empty = {0, 20, 999, 1, 0, 999};
        for (int what = 0; what <= 5; what++) {
            Edges.due("chapterOf(0, " + what + "), empty", x.chapterOf(0, what), empty[what]);
        }
        LentPhrases full = allPlaced();
        Edges.due("phrases of a full one", full.chapterOf(0, 4), 24);
        LentPhrases loan = Books.loan();
        Edges.due("phrases of one that keeps a place", loan.chapterOf(0, 4), 0);
        Edges.due("phrases of one to which one is lent", loan.chapterOf(1, 4), 1);
        LentPhrases last = Books.lastDay();
        last.sell(0, 1, 7);
        Edges.due("the last day", last.chapterOf(0, 3), 9999);
    }

    private static void chapterOfBuyBack() {
        Edges.says(13, "Returns something of a chapter.");
        LentPhrases x = new LentPhrases();
        x.client(0, 999);
        x.chapter(0, 1, 999);
        int[] lost = {0, 1, 33, 34, 99, 100};
        int[] left = {999, 989, 669, 659, 9, 0};
        x.pass(1);
        for (int i = 0; i < lost.length; i++) {
            x.set(1, lost[i]);
            Edges.due("lost " + lost[i], x.chapterOf(0, 5), left[i]);
        }
        x.pass(1);
        x.set(1, 50);
        Edges.due("just all", x.chapterOf(0, 5), 0);
        x.set(1, 51);
        Edges.due("more than all", x.chapterOf(0, 5), 0);
        Edges.due("buyBack(0)", x.buyBack(0), 0);
    }

    private static void chapterOfChapter() {
        Edges.says(13, "`chapter`: number of the chapter");
        LentPhrases x = Books.tenChapters();
        Edges.due("the least", x.chapterOf(0, 1), 1);
        Edges.due("the greatest", x.chapterOf(9, 1), 10);
        Edges.refusedOutside(Books::tenChapters, "chapterOf(?, 0)", 0, 9, (y, chapter) -> y.chapterOf(chapter, 0));
        Edges.refusedOutside(Books::homeless, "chapterOf(?, 5)", 0, 0, (y, chapter) -> y.chapterOf(chapter, 5));
    }

    private static void chapterOfWhat() {
        Edges.says(13, OUT_OF_RANGE);
        Edges.refusedOutside(Books::loan, "chapterOf(1, ?)", 0, 5, (y, what) -> y.chapterOf(1, what));
    }

    private static void phraseOfWords() {
        Edges.says(14, "`what`: 0: its voice; 1 to 3: its words; 4: the chapter in which it is; 5: the page; 6: the "
            + "client of that chapter; 7: the day on which it is due; 8: the chapter of its home; 9: the page of its "
            + "home; 10: how often it was lent so far");
        LentPhrases x = new LentPhrases();
        x.phrase(3, 63, 63, 63);
        x.phrase(0, 0, 0, 0);
        x.phrase(1, 5, 6, -1);
        x.phrase(2, 5, -1, -1);
        int[][] due = {{3, 63, 63, 63}, {0, 0, 0, 0}, {1, 5, 6, NOT_FOUND}, {2, 5, NOT_FOUND, NOT_FOUND}};
        for (int phrase = 0; phrase < 4; phrase++) {
            for (int what = 0; what <= 3; what++) {
                Edges.due("phraseOf(" + phrase + ", " + what + ")", x.phraseOf(phrase, what), due[phrase][what]);
            }
        }
    }

    private static void phraseOfPlaces() {
        Edges.says(14, "Returns something of a phrase.");
        LentPhrases x = Books.tenChapters();
        x.phrase(0, 1, -1, -1);
        x.place(0, 0, 0);
        int[] least = {0, 0, 0, NOT_FOUND, NOT_FOUND, NOT_FOUND, 0};
        for (int what = 4; what <= 10; what++) {
            Edges.due("phraseOf(0, " + what + ") on the first page", x.phraseOf(0, what), least[what - 4]);
        }
        x.lend(0, 9, 9, 1);
        int[] lent = {9, 9, 1, 1, 0, 0, 1};
        for (int what = 4; what <= 10; what++) {
            Edges.due("phraseOf(0, " + what + ") on the last page", x.phraseOf(0, what), lent[what - 4]);
        }
    }

    private static void phraseOfPhrase() {
        Edges.says(14, "`phrase`: number of the phrase");
        LentPhrases x = Books.allPhrases();
        Edges.due("the least", x.phraseOf(0, 1), 0);
        Edges.due("the greatest", x.phraseOf(23, 1), 23);
        Edges.refusedOutside(Books::allPhrases, "phraseOf(?, 0)", 0, 23, (y, phrase) -> y.phraseOf(phrase, 0));
        Edges.refusedOutside(Books::two, "phraseOf(?, 4)", 0, 1, (y, phrase) -> y.phraseOf(phrase, 4));
        Edges.refusedOutside(Books::two, "phraseOf(?, 10)", 0, 1, (y, phrase) -> y.phraseOf(phrase, 10));
    }

    private static void phraseOfWhat() {
        Edges.says(14, "Returns the number; INVALID_ARGUMENT if an argument is out of range; NOT_FOUND for 2 and 3 "
            + "if there is no such word, for 4 to 6 if it is free, for 7 to 9 if it is not lent, for 8 and 9 if its "
            + "home is gone.");
        Edges.refusedOutside(Books::loan, "phraseOf(0, ?), lent", 0, 10, (y, what) -> y.phraseOf(0, what));
        Edges.refusedOutside(Books::loan, "phraseOf(1, ?), free", 0, 10, (y, what) -> y.phraseOf(1, what));
    }

    private static void phraseOfReturns() {
        Edges.says(14, "Returns the number; INVALID_ARGUMENT if an argument is out of range; NOT_FOUND for 2 and 3 "
            + "if there is no such word, for 4 to 6 if it is free, for 7 to 9 if it is not lent, for 8 and 9 if its "
            + "home is gone.");
        for (int what = 4; what <= 9; what++) {
            int asked = what;
            Edges.refused(Books::loan, "phraseOf(1, " + what + "), free", y -> y.phraseOf(1, asked), NOT_FOUND);
        }
        for (int what = 7; what <= 9; what++) {
            int asked = what;
            Edges.refused(Books::two, "phraseOf(0, " + what + "), placed", y -> y.phraseOf(0, asked), NOT_FOUND);
        }
        for (int what = 8; what <= 9; what++) {
            int asked = what;
            Edges.refused(Books::homeless, "phraseOf(0, " + what + "), home gone", y -> y.phraseOf(0, asked),
                NOT_FOUND);
        }
        Edges.due("it is due, home gone", Books.homeless().phraseOf(0, 7), 4);
        Edges.due("it is somewhere, home gone", Books.homeless().phraseOf(0, 4), 0);
    }

    private static void findWords() {
        Edges.says(15, "Returns the phrase with some words.");
        LentPhrases x = new LentPhrases();
        x.phrase(0, 0, 0, 0);
        x.phrase(0, 0, 0, -1);
        x.phrase(0, 0, -1, -1);
        x.phrase(0, 63, 63, 63);
        x.phrase(0, 63, 63, -1);
        x.phrase(0, 63, -1, -1);
        Edges.due("find(0, 0, 0)", x.find(0, 0, 0), 0);
        Edges.due("find(0, 0, -1)", x.find(0, 0, -1), 1);
        Edges.due("find(0, -1, -1)", x.find(0, -1, -1), 2);
        Edges.due("find(63, 63, 63)", x.find(63, 63, 63), 3);
        Edges.due("find(63, 63, -1)", x.find(63, 63, -1), 4);
        Edges.due("find(63, -1, -1)", x.find(63, -1, -1), 5);
    }

    private static void findOutOfRange() {
        Edges.says(15, "`three`: the third word, 0 to 63, -1: there is none; it has to be -1 if two is");
        Edges.refusedOutside(Books::two, "find(?, -1, -1)", 0, 63, (y, word) -> y.find(word, -1, -1));
        Edges.refusedOutside(Books::two, "find(7, ?, -1)", -1, 63, (y, word) -> y.find(7, word, -1));
        Edges.refusedOutside(Books::two, "find(7, 8, ?)", -1, 63, (y, word) -> y.find(7, 8, word));
        Edges.refusedOutside(Books::two, "find(7, -1, ?)", -1, -1, (y, word) -> y.find(7, -1, word));
        Edges.refused(Books::two, "find(7, -1, 0)", y -> y.find(7, -1, 0), INVALID);
        Edges.refused(Books::two, "find(7, -1, 63)", y -> y.find(7, -1, 63), INVALID);
    }

    private static void findReturns() {
        Edges.says(15, "Returns its number; INVALID_ARGUMENT if an argument is out of range; NOT_FOUND if there is "
            + "none.");
        Edges.refused(Books::fresh, "find(0, 0, 0) among none", y -> y.find(0, 0, 0), NOT_FOUND);
        Edges.refused(Books::two, "a word less", y -> y.find(8, -1, -1), NOT_FOUND);
        Edges.refused(Books::two, "a word more", y -> y.find(7, 8, 0), NOT_FOUND);
        Edges.refused(Books::two, "the words turned", y -> y.find(8, 7, -1), NOT_FOUND);
        Edges.refused(Books::allPhrases, "the word behind the last", y -> y.find(24, -1, -1), NOT_FOUND);
        LentPhrases x = Books.allPhrases();
        Edges.due("the last", x.find(23, -1, -1), 23);
        x.undo();
        x.undo();
        Edges.due("the last, undone", x.find(23, -1, -1), NOT_FOUND);
    }

    private static void onEmptyAndFullPage() {
        Edges.says(16, "`index`: 0 for the one with the lowest number, and so on; 10: how many places are left on "
            + "the page");
        LentPhrases x = Books.allPhrases();
        Edges.due("an empty page", x.on(0, 19, 0), NOT_FOUND);
        Edges.due("its places", x.on(0, 19, 10), 3);
        x.place(23, 0, 19);
        x.place(0, 0, 19);
        x.place(12, 0, 19);
        int[] full = {0, 12, 23, NOT_FOUND, NOT_FOUND, NOT_FOUND, NOT_FOUND, NOT_FOUND, NOT_FOUND, NOT_FOUND, 0};
        for (int index = 0; index <= 10; index++) {
            Edges.due("on(0, 19, " + index + "), full", x.on(0, 19, index), full[index]);
        }
        Edges.due("the page ahead of it", x.on(0, 18, 0), NOT_FOUND);
        x.lift(0);
        Edges.due("the lowest then", x.on(0, 19, 0), 12);
    }

    private static void onPlacesLeft() {
        Edges.says(16, "Returns a phrase of a page, by their numbers.");
        LentPhrases x = Books.fullPage();
        Edges.due("places of a page with a kept one", x.on(0, 1, 10), 0);
        Edges.due("the first of it", x.on(0, 1, 0), 2);
        Edges.due("the second of it", x.on(0, 1, 1), 3);
        Edges.due("a kept place has none", x.on(0, 1, 2), NOT_FOUND);
        x.buyBack(1);
        Edges.due("at home at once", x.on(0, 1, 0), 0);
        Edges.due("places with it at home", x.on(0, 1, 10), 0);
        LentPhrases gone = Books.homeless();
        Edges.due("one without a home", gone.on(0, 0, 0), 0);
        Edges.due("places beside one without a home", gone.on(0, 0, 10), 2);
    }

    private static void onOutOfRange() {
        Edges.says(16, "Returns the phrase (or how many); INVALID_ARGUMENT if there is no such chapter or page, or "
            + "index is not 0 to 10; NOT_FOUND if there are not so many.");
        Edges.refusedOutside(Books::loan, "on(?, 0, 0)", 0, 1, (y, chapter) -> y.on(chapter, 0, 0));
        Edges.refusedOutside(Books::homeless, "on(?, 0, 10)", 0, 0, (y, chapter) -> y.on(chapter, 0, 10));
        Edges.refusedOutside(Books::loan, "on(1, ?, 0)", 0, 1, (y, page) -> y.on(1, page, 0));
        Edges.refusedOutside(Books::loan, "on(1, ?, 10)", 0, 1, (y, page) -> y.on(1, page, 10));
        Edges.refusedOutside(Books::allPhrases, "on(0, ?, 10)", 0, 19, (y, page) -> y.on(0, page, 10));
        Edges.refusedOutside(Books::tenChapters, "on(0, ?, 10)", 0, 0, (y, page) -> y.on(0, page, 10));
        Edges.refusedOutside(Books::loan, "on(1, 0, ?)", 0, 10, (y, index) -> y.on(1, 0, index));
    }

    private static void onReturns() {
        Edges.says(16, "Returns the phrase (or how many); INVALID_ARGUMENT if there is no such chapter or page, or "
            + "index is not 0 to 10; NOT_FOUND if there are not so many.");
        Edges.refused(Books::loan, "the second of one", y -> y.on(1, 0, 1), NOT_FOUND);
        Edges.refused(Books::loan, "the tenth of one", y -> y.on(1, 0, 9), NOT_FOUND);
        Edges.refused(Books::loan, "the first of none", y -> y.on(0, 0, 0), NOT_FOUND);
        Edges.refused(Books::fullPage, "the third of two", y -> y.on(0, 1, 2), NOT_FOUND);
    }

    private static void tellsOfVoices() {
        Edges.says(17, "`voices`: the voices that the reader knows, as a set (0 to 15)");
        LentPhrases x = allPlaced();
        int[] one = {0, 6, 6, 6};
        for (int voice = 0; voice < 4; voice++) {
            Edges.due("tells(0, " + (1 << voice) + ")", x.tells(0, 1 << voice), one[voice]);
        }
        Edges.due("tells(0, 0)", x.tells(0, 0), 0);
        Edges.due("tells(0, 15)", x.tells(0, 15), 18);
        Edges.due("tells(0, 14)", x.tells(0, 14), 18);
        x.client(3, 0);
        Edges.due("tells(1, 15) of an empty book", x.tells(1, 15), 0);
        x.sell(0, 1, 0);
        Edges.due("tells(1, 8), the client's voice", x.tells(1, 8), 0);
        Edges.due("tells(1, 1)", x.tells(1, 1), 6);
        Edges.due("tells(0, 15) of a book that is sold", x.tells(0, 15), 0);
    }

    private static void tellsOutOfRange() {
        Edges.says(17, "Counts the tells that a reader finds.");
        Edges.refusedOutside(Books::loan, "tells(?, 15)", 0, 1, (y, client) -> y.tells(client, 15));
        Edges.refusedOutside(Books::loan, "tells(1, ?)", 0, 15, (y, voices) -> y.tells(1, voices));
    }

    private static void tellsReturns() {
        Edges.says(17, "Returns how many; INVALID_ARGUMENT if an argument is out of range.");
        LentPhrases x = Books.loan();
        Edges.due("where it is lent", x.tells(1, 1), 1);
        Edges.due("by one who doesn't know it", x.tells(1, 14), 0);
        Edges.due("at its home", x.tells(0, 15), 0);
        Edges.due("without its home", Books.homeless().tells(1, 15), 1);
        x.pass(4);
        Edges.due("when it is at home", x.tells(1, 15), 0);
    }

    private static void alikeInABook() {
        Edges.says(18, "Counts phrases that begin with the same word as a phrase, and are in the same book (not "
            + "itself).");
        LentPhrases x = new LentPhrases();
        x.client(0, 100);
        x.client(0, 100);
        x.chapter(0, 20, 0);
        x.chapter(0, 1, 0);
        x.chapter(1, 1, 0);
        for (int i = 0; i < 24; i++) {
            x.phrase(0, 63, i, -1);
            x.place(i, i < 23 ? 0 : 1, i < 23 ? i / 3 : 0);
        }
        Edges.due("all in one book", x.alike(0), 23);
        Edges.due("of another chapter", x.alike(23), 23);
        x.lend(5, 2, 0, 1);
        Edges.due("one is lent", x.alike(0), 22);
        Edges.due("the lent one", x.alike(5), 0);
        x.lend(6, 2, 0, 1);
        Edges.due("the lent one, and another", x.alike(5), 1);
        Edges.due("two are lent", x.alike(23), 21);
    }

    private static void alikePhrase() {
        Edges.says(18, "`phrase`: number of the phrase");
        Edges.due("the only one", Books.two().alike(0), 0);
        Edges.refusedOutside(Books::two, "alike(?)", 0, 1, (y, phrase) -> y.alike(phrase));
        Edges.refusedOutside(Books::allPhrases, "alike(?)", 0, 23, (y, phrase) -> y.alike(phrase));
    }

    private static void alikeReturns() {
        Edges.says(18, "Returns how many; INVALID_ARGUMENT; NOT_POSSIBLE if it is free.");
        Edges.refused(Books::two, "a free one", y -> y.alike(1), NOT_POSSIBLE);
        Edges.refused(Books::allPhrases, "a free one among free ones", y -> y.alike(23), NOT_POSSIBLE);
        Edges.due("one without a home", Books.homeless().alike(0), 0);
        LentPhrases x = Books.homeless();
        x.pass(4);
        Edges.due("when it is free", x.alike(0), NOT_POSSIBLE);
    }

    private static void countOfAll() {
        Edges.says(19, "`what`: 0: clients; 1: chapters; 2: phrases; 3: the day; 4: free phrases; 5: lent ones; 6: "
            + "the account of the writer; 7: fees so far; 8: states in the history; 9: the length of the text; 10: 1 "
            + "if there is a snapshot, otherwise 0; 11: unlike first words; 20, 21: the settings 0, 1");
        Edges.due("the most clients", Books.fiveClients().count(0), 5);
        Edges.due("the most chapters", Books.tenChapters().count(1), 10);
        Edges.due("the most phrases", Books.allPhrases().count(2), 24);
        Edges.due("the last day", Books.lastDay().count(3), 9999);
        Edges.due("all are free", Books.allPhrases().count(4), 24);
        Edges.due("none is free", allPlaced().count(4), 0);
        Edges.due("none is lent", allPlaced().count(5), 0);
        Edges.due("one without a home is lent", Books.homeless().count(5), 1);
        Edges.due("and is not free", Books.homeless().count(4), 1);
        Edges.due("the most states", Books.two().count(8), 4);
        Edges.due("the longest text", Books.fullText().count(9), 60);
        Edges.due("a snapshot", Books.two().count(10), 1);
        Edges.due("no snapshot", Checks.twoBooks().count(10), 0);
        Edges.due("the settings", Books.two().count(20), 5);
        Edges.due("the settings", Books.two().count(21), 3);
    }

    private static void countOfFirstWords() {
        Edges.says(19, "Returns a number.");
        Edges.due("none", new LentPhrases().count(11), 0);
        Edges.due("all of them unlike", Books.allPhrases().count(11), 24);
        LentPhrases x = new LentPhrases();
        x.phrase(0, 0, 63, 32);
        Edges.due("the least word", x.count(11), 1);
        x.phrase(0, 63, 0, 31);
        Edges.due("the greatest word", x.count(11), 2);
        x.phrase(0, 31, -1, -1);
        Edges.due("the word 31", x.count(11), 3);
        x.phrase(0, 32, -1, -1);
        Edges.due("the word 32", x.count(11), 4);
        x.phrase(3, 32, 31, -1);
        x.phrase(3, 63, 63, 63);
        Edges.due("words that were", x.count(11), 4);
        x.undo();
        x.undo();
        x.undo();
        Edges.due("undone", x.count(11), 3);
    }

    private static void countOutOfRange() {
        Edges.says(19, "Returns the number; INVALID_ARGUMENT if what is out of range.");
        Edges.refusedOutside(Books::loan, "count(?)", 0, 21, (y, what) -> y.count(what));
        for (int what = 12; what <= 19; what++) {
            int asked = what;
            Edges.refused(Books::loan, "count(" + what + ")", y -> y.count(asked), INVALID);
        }
    }
}
