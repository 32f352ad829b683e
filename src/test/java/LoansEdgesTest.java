/** Boundary cases of promises 5 to 7: place, lift, lend. */
public final class LoansEdgesTest {
    private static final int INVALID = LentPhrases.INVALID_ARGUMENT;
    private static final int NOT_POSSIBLE = LentPhrases.NOT_POSSIBLE;
    private static final int LIMIT = LentPhrases.LIMIT_REACHED;
    private static final int NOT_FOUND = LentPhrases.NOT_FOUND;

    public static void main(String[] args) {
        placeOfAFreeOne();
        placePhrase();
        placeChapter();
        placePage();
        placeReturns();
        placeOnAFullPage();
        liftFrees();
        liftPhrase();
        liftReturns();
        lendMoves();
        lendPhrase();
        lendChapter();
        lendPage();
        lendDays();
        lendFee();
        lendImpossible();
        lendToAFullPage();
        Checks.finish("LoansEdgesTest");
    }

    /** The full page 1 of chapter 0, and phrase 1 on page 1 of chapter 1, from where it can be lent. */
    private static LentPhrases fullPageAndLender() {
        LentPhrases x = Books.fullPage();
        x.place(1, 1, 1);
        return x;
    }

    /** A chapter of twenty pages for client 0 behind the others, which is chapter 2. */
    private static LentPhrases longChapter() {
        LentPhrases x = Books.two();
        x.chapter(0, 20, 0);
        return x;
    }

    private static LentPhrases longAndShortChapter() {
        LentPhrases x = longChapter();
        x.chapter(0, 1, 0);
        x.place(1, 1, 0);
        return x;
    }

    private static void placeOfAFreeOne() {
        Edges.says(5, "Places a free phrase on a page.");
        LentPhrases x = Books.two();
        Edges.due("free ones before", x.count(4), 1);
        Edges.due("place(1, 1, 1)", x.place(1, 1, 1), 2);
        Edges.due("its chapter", x.phraseOf(1, 4), 1);
        Edges.due("its page", x.phraseOf(1, 5), 1);
        Edges.due("its client", x.phraseOf(1, 6), 1);
        Edges.due("it is not lent", x.phraseOf(1, 7), NOT_FOUND);
        Edges.due("free ones then", x.count(4), 0);
        Edges.due("places on the other page", x.on(1, 0, 10), 3);
    }

    private static void placePhrase() {
        Edges.says(5, "`phrase`: number of the phrase");
        LentPhrases x = Books.allPhrases();
        Edges.due("place(0, 0, 0)", x.place(0, 0, 0), 2);
        Edges.due("place(23, 0, 0)", x.place(23, 0, 0), 1);
        Edges.refusedOutside(Books::two, "place(?, 0, 0)", 0, 1, (y, phrase) -> y.place(phrase, 0, 0));
        Edges.refusedOutside(Books::allPhrases, "place(?, 0, 0)", 0, 23, (y, phrase) -> y.place(phrase, 0, 0));
    }

    private static void placeChapter() {
        Edges.says(5, "`chapter`: number of the chapter");
        LentPhrases x = Books.tenChapters();
        x.phrase(0, 1, -1, -1);
        x.phrase(0, 2, -1, -1);
        Edges.due("place(0, 0, 0)", x.place(0, 0, 0), 2);
        Edges.due("place(1, 9, 0)", x.place(1, 9, 0), 2);
        Edges.due("the greatest chapter", x.phraseOf(1, 4), 9);
        Edges.refusedOutside(Books::two, "place(1, ?, 0)", 0, 1, (y, chapter) -> y.place(1, chapter, 0));
        x.lift(1);
        x.buyBack(0);
        Edges.due("one that is gone", x.place(1, 9, 0), INVALID);
        Edges.due("the greatest chapter then", x.place(1, 8, 0), 2);
    }

    private static void placePage() {
        Edges.says(5, "`page`: number of the page");
        LentPhrases x = longChapter();
        Edges.due("page 0 of 20", x.place(1, 2, 0), 2);
        x.lift(1);
        Edges.due("page 19 of 20", x.place(1, 2, 19), 2);
        Edges.due("the greatest page", x.phraseOf(1, 5), 19);
        Edges.refusedOutside(Books::two, "place(1, 0, ?)", 0, 1, (y, page) -> y.place(1, 0, page));
        Edges.refusedOutside(LoansEdgesTest::longChapter, "place(1, 2, ?)", 0, 19, (y, page) -> y.place(1, 2, page));
        LentPhrases one = Books.two();
        one.chapter(0, 1, 0);
        Edges.due("page 1 of 1", one.place(1, 2, 1), INVALID);
        Edges.due("page 0 of 1", one.place(1, 2, 0), 2);
    }

    private static void placeReturns() {
        Edges.says(5, "Returns how many places are left on the page then; INVALID_ARGUMENT; NOT_POSSIBLE if it is "
            + "not free; LIMIT_REACHED if no place is left there.");
        LentPhrases x = Books.allPhrases();
        Edges.due("the first", x.place(5, 0, 3), 2);
        Edges.due("the second", x.place(4, 0, 3), 1);
        Edges.due("the third", x.place(3, 0, 3), 0);
        Edges.due("the fourth", x.place(2, 0, 3), LIMIT);
        Edges.due("on the page behind it", x.place(2, 0, 4), 2);
        Edges.due("on the page ahead of it", x.place(1, 0, 2), 2);
        Edges.refused(Books::two, "one on a page", y -> y.place(0, 0, 0), NOT_POSSIBLE);
        Edges.refused(Books::two, "one on the same page", y -> y.place(0, 0, 1), NOT_POSSIBLE);
        Edges.refused(Books::loan, "a lent one", y -> y.place(0, 1, 1), NOT_POSSIBLE);
        Edges.refused(Books::loan, "a lent one on its home", y -> y.place(0, 0, 1), NOT_POSSIBLE);
        Edges.refused(Books::homeless, "a lent one without a home", y -> y.place(0, 0, 1), NOT_POSSIBLE);
    }

    private static void placeOnAFullPage() {
        Edges.says(5, "Returns how many places are left on the page then; INVALID_ARGUMENT; NOT_POSSIBLE if it is "
            + "not free; LIMIT_REACHED if no place is left there.");
        Edges.refused(Books::fullPage, "a free one on a full page", y -> y.place(1, 0, 1), LIMIT);
        Edges.refused(Books::fullPage, "one of it on a full page", y -> y.place(2, 0, 1), NOT_POSSIBLE);
        Edges.refused(Books::fullPage, "no phrase on a full page", y -> y.place(5, 0, 1), INVALID);
        LentPhrases x = Books.fullPage();
        x.lift(2);
        Edges.due("the last place again", x.place(1, 0, 1), 0);
        LentPhrases lent = Books.fullPage();
        lent.lend(2, 1, 0, 1);
        lent.lend(3, 1, 0, 1);
        Edges.due("beside three that are lent to it", lent.place(1, 1, 0), LIMIT);
        Edges.due("beside three kept places", lent.place(1, 0, 1), LIMIT);
        lent.pass(1);
        Edges.due("when two are at home", lent.place(1, 1, 0), 1);
        Edges.due("when two are at home, there", lent.place(4, 0, 1), LIMIT);
    }

    private static void liftFrees() {
        Edges.says(6, "Lifts a phrase from its page, which is free then.");
        LentPhrases x = Books.two();
        Edges.due("lift(0)", x.lift(0), 0);
        for (int what = 4; what <= 9; what++) {
            Edges.due("phraseOf(0, " + what + ")", x.phraseOf(0, what), NOT_FOUND);
        }
        Edges.due("free ones", x.count(4), 2);
        Edges.due("the page is empty", x.on(0, 1, 0), NOT_FOUND);
        Edges.due("places there", x.on(0, 1, 10), 3);
        Edges.due("placed again", x.place(0, 0, 1), 2);
    }

    private static void liftPhrase() {
        Edges.says(6, "`phrase`: number of the phrase");
        LentPhrases x = Books.allPhrases();
        x.place(0, 0, 0);
        x.place(23, 0, 19);
        Edges.due("lift(0)", x.lift(0), 0);
        Edges.due("lift(23)", x.lift(23), 0);
        Edges.refusedOutside(Books::two, "lift(?)", 0, 1, (y, phrase) -> y.lift(phrase));
        Edges.refusedOutside(Books::allPhrases, "lift(?)", 0, 23, (y, phrase) -> y.lift(phrase));
    }

    private static void liftReturns() {
        Edges.says(6, "Returns the chapter in which it was; INVALID_ARGUMENT; NOT_POSSIBLE if it is free or lent.");
        LentPhrases x = Books.tenChapters();
        x.phrase(0, 1, -1, -1);
        x.place(0, 9, 9);
        Edges.due("from the greatest chapter", x.lift(0), 9);
        x.place(0, 9, 9);
        x.buyBack(3);
        Edges.due("when one ahead of it is gone", x.lift(0), 8);
        Edges.refused(Books::two, "a free one", y -> y.lift(1), NOT_POSSIBLE);
        Edges.refused(Books::loan, "a lent one", y -> y.lift(0), NOT_POSSIBLE);
        Edges.refused(Books::homeless, "a lent one without a home", y -> y.lift(0), NOT_POSSIBLE);
        LentPhrases home = Books.loan();
        home.pass(4);
        Edges.due("one at home again", home.lift(0), 0);
    }

    private static void lendMoves() {
        Edges.says(7, "Lends a phrase.");
        LentPhrases x = Books.two();
        Edges.due("lend(0, 1, 0, 1)", x.lend(0, 1, 0, 1), 5);
        int[] lent = {0, 7, NOT_FOUND, NOT_FOUND, 1, 0, 1, 1, 0, 1, 1};
        for (int what = 0; what <= 10; what++) {
            Edges.due("phraseOf(0, " + what + ")", x.phraseOf(0, what), lent[what]);
        }
        x.pass(1);
        Edges.due("lend(0, 1, 1, 1)", x.lend(0, 1, 1, 1), 5);
        Edges.due("how often it was lent", x.phraseOf(0, 10), 2);
        Edges.due("its page", x.phraseOf(0, 5), 1);
    }

    private static void lendPhrase() {
        Edges.says(7, "`phrase`: number of the phrase");
        LentPhrases x = Books.allPhrases();
        x.client(1, 100);
        x.chapter(1, 1, 0);
        x.place(0, 0, 0);
        x.place(23, 0, 19);
        Edges.due("lend(0, 1, 0, 1)", x.lend(0, 1, 0, 1), 5);
        Edges.due("lend(23, 1, 0, 1)", x.lend(23, 1, 0, 1), 5);
        Edges.refusedOutside(Books::two, "lend(?, 1, 0, 1)", 0, 1, (y, phrase) -> y.lend(phrase, 1, 0, 1));
    }

    private static void lendChapter() {
        Edges.says(7, "`chapter`: number of the chapter to which it is lent");
        LentPhrases x = Books.tenChapters();
        x.phrase(0, 1, -1, -1);
        x.phrase(0, 2, -1, -1);
        x.place(0, 0, 0);
        x.place(1, 9, 9);
        Edges.due("to the greatest chapter", x.lend(0, 9, 9, 1), 5);
        Edges.due("to the least chapter", x.lend(1, 0, 0, 1), 5);
        Edges.refusedOutside(Books::two, "lend(0, ?, 0, 1)", 0, 1, (y, chapter) -> y.lend(0, chapter, 0, 1));
        Edges.refused(Books::homeless, "to one that is gone", y -> y.lend(0, 1, 0, 1), INVALID);
    }

    private static void lendPage() {
        Edges.says(7, "`page`: number of the page");
        LentPhrases x = longChapter();
        x.place(1, 1, 1);
        Edges.due("to page 19 of 20", x.lend(1, 2, 19, 1), 5);
        Edges.due("its page", x.phraseOf(1, 5), 19);
        x.pass(1);
        Edges.due("to page 0 of 20", x.lend(1, 2, 0, 1), 5);
        Edges.refusedOutside(Books::two, "lend(0, 1, ?, 1)", 0, 1, (y, page) -> y.lend(0, 1, page, 1));
        Edges.refusedOutside(LoansEdgesTest::longAndShortChapter, "lend(1, 2, ?, 1)", 0, 19,
            (y, page) -> y.lend(1, 2, page, 1));
        Edges.refusedOutside(LoansEdgesTest::longAndShortChapter, "lend(1, 3, ?, 1)", 0, 0,
            (y, page) -> y.lend(1, 3, page, 1));
    }

    private static void lendDays() {
        Edges.says(7, "`days`: 1 to 20");
        LentPhrases least = Books.two();
        Edges.due("lend(0, 1, 0, 1)", least.lend(0, 1, 0, 1), 5);
        Edges.due("it is due", least.phraseOf(0, 7), 1);
        LentPhrases greatest = Books.two();
        Edges.due("lend(0, 1, 0, 20)", greatest.lend(0, 1, 0, 20), 100);
        Edges.due("it is due", greatest.phraseOf(0, 7), 20);
        Edges.refusedOutside(Books::two, "lend(0, 1, 0, ?)", 1, 20, (y, days) -> y.lend(0, 1, 0, days));
    }

    private static void lendFee() {
        Edges.says(7, "Returns the fee; INVALID_ARGUMENT if an argument is out of range; NOT_POSSIBLE if it is free "
            + "or lent, the chapter is of the same client, or the purse has less; LIMIT_REACHED if no place is left "
            + "on the page.");
        LentPhrases x = new LentPhrases();
        x.client(0, 0);
        x.client(0, 1980);
        x.chapter(0, 1, 0);
        x.chapter(1, 1, 0);
        x.phrase(0, 1, -1, -1);
        x.phrase(0, 2, -1, -1);
        x.place(0, 0, 0);
        x.place(1, 0, 0);
        x.set(0, 99);
        Edges.due("the greatest fee, the whole purse", x.lend(0, 1, 0, 20), 1980);
        Edges.due("the purse then", x.clientOf(1, 1), 0);
        Edges.due("the purse of its home", x.clientOf(0, 1), 1980);
        Edges.due("fees so far", x.count(7), 1980);
        Edges.due("the account", x.count(6), 0);
        Edges.due("with nothing left", x.lend(1, 1, 0, 1), NOT_POSSIBLE);
        x.set(0, 1);
        Edges.due("with nothing left, for 1", x.lend(1, 1, 0, 1), NOT_POSSIBLE);
        x.set(0, 0);
        Edges.due("the least fee", x.lend(1, 1, 0, 20), 0);
        Edges.due("fees so far", x.count(7), 1980);
        LentPhrases less = new LentPhrases();
        less.client(0, 0);
        less.client(0, 1979);
        less.chapter(0, 1, 0);
        less.chapter(1, 1, 0);
        less.phrase(0, 1, -1, -1);
        less.place(0, 0, 0);
        less.set(0, 99);
        Edges.due("with one less", less.lend(0, 1, 0, 20), NOT_POSSIBLE);
        Edges.due("fees so far", less.count(7), 0);
        Edges.due("for a day less", less.lend(0, 1, 0, 19), 1881);
    }

    private static void lendImpossible() {
        Edges.says(7, "Returns the fee; INVALID_ARGUMENT if an argument is out of range; NOT_POSSIBLE if it is free "
            + "or lent, the chapter is of the same client, or the purse has less; LIMIT_REACHED if no place is left "
            + "on the page.");
        Edges.refused(Books::two, "a free one", y -> y.lend(1, 1, 0, 1), NOT_POSSIBLE);
        Edges.refused(Books::two, "to its page", y -> y.lend(0, 0, 1, 1), NOT_POSSIBLE);
        Edges.refused(Books::two, "to its chapter", y -> y.lend(0, 0, 0, 1), NOT_POSSIBLE);
        Edges.refused(LoansEdgesTest::longChapter, "to the client's other chapter", y -> y.lend(0, 2, 0, 1),
            NOT_POSSIBLE);
        Edges.refused(Books::loan, "a lent one, farther", y -> y.lend(0, 1, 1, 1), NOT_POSSIBLE);
        Edges.refused(Books::loan, "a lent one, back", y -> y.lend(0, 0, 0, 1), NOT_POSSIBLE);
        Edges.refused(Books::homeless, "a lent one without a home", y -> y.lend(0, 0, 1, 1), NOT_POSSIBLE);
        LentPhrases x = Books.loan();
        x.client(2, 4);
        x.chapter(2, 1, 0);
        x.place(1, 0, 0);
        Edges.due("a lent one, to a third client", x.lend(0, 2, 0, 1), NOT_POSSIBLE);
        Edges.due("with one less in the purse", x.lend(1, 2, 0, 1), NOT_POSSIBLE);
        x.set(0, 4);
        Edges.due("with just as much", x.lend(1, 2, 0, 1), 4);
    }

    private static void lendToAFullPage() {
        Edges.says(7, "Returns the fee; INVALID_ARGUMENT if an argument is out of range; NOT_POSSIBLE if it is free "
            + "or lent, the chapter is of the same client, or the purse has less; LIMIT_REACHED if no place is left "
            + "on the page.");
        Edges.refused(LoansEdgesTest::fullPageAndLender, "to a full page", y -> y.lend(1, 0, 1, 1), LIMIT);
        Edges.refused(LoansEdgesTest::fullPageAndLender, "a free one to a full page", y -> y.lend(4, 0, 1, 1),
            NOT_POSSIBLE);
        Edges.refused(LoansEdgesTest::fullPageAndLender, "to the full page of its own", y -> y.lend(2, 0, 1, 1),
            NOT_POSSIBLE);
        Edges.refused(LoansEdgesTest::fullPageAndLender, "to a full page for no day", y -> y.lend(1, 0, 1, 0), INVALID);
        LentPhrases dear = fullPageAndLender();
        dear.chapter(0, 1, 920);
        Edges.due("to a full page with an empty purse", dear.lend(1, 0, 1, 1), NOT_POSSIBLE);
        LentPhrases x = fullPageAndLender();
        x.lift(3);
        Edges.due("to the last place", x.lend(1, 0, 1, 1), 5);
        Edges.due("places then", x.on(0, 1, 10), 0);
        Edges.due("its kept place", x.on(1, 1, 10), 2);
    }
}
