/** Promises 8 to 11: buyBack, sell, pass, set. */
public final class ChaptersTest {
    public static void main(String[] args) {
        whatIsPaidBack();
        buyBackOfHome();
        buyBackOfTheOtherBook();
        buyBackMovesNumbers();
        buyBackOfBoth();
        sell();
        sellEndsLoans();
        sellKeepsOtherLoans();
        pass();
        passOfManyLoans();
        passToTheLastDay();
        set();
        Checks.finish("ChaptersTest");
    }

    private static void whatIsPaidBack() {
        LentPhrases x = new LentPhrases();
        x.client(0, 9999);
        Checks.due(8, "buyBack(0) of none", x.buyBack(0), Checks.INVALID);
        x.chapter(0, 1, 999);
        x.chapter(0, 1, 333);
        x.chapter(0, 1, 77);
        Checks.due(8, "buyBack(-1)", x.buyBack(-1), Checks.INVALID);
        Checks.due(8, "buyBack(3)", x.buyBack(3), Checks.INVALID);
        Checks.due(8, "on the same day", x.buyBack(0), 999);
        Checks.due(8, "purse", x.clientOf(0, 1), 9999 - 333 - 77);
        Checks.due(8, "account", x.count(6), 410);
        x.pass(33);
        Checks.due(8, "rounded down", x.buyBack(0), 113);
        x.set(1, 100);
        Checks.due(8, "nothing is left", x.buyBack(0), 0);
        Checks.due(8, "account", x.count(6), 410 - 113);
        x.chapter(0, 1, 5);
        x.sell(0, 0, 5);
        x.client(0, 999);
        x.sell(0, 1, 999);
        Checks.due(8, "the price of the sale", x.buyBack(0), 999);
        Checks.due(8, "an account below 0", x.count(6), 297 + 5 - 999);
    }

    private static void buyBackOfHome() {
        LentPhrases x = Checks.oneLoan();
        x.place(1, 0, 1);
        Checks.due(8, "buyBack(0)", x.buyBack(0), 100);
        Checks.due(8, "one that is not lent is free", x.phraseOf(1, 4), Checks.NOT_FOUND);
        Checks.due(8, "a lent one stays", x.phraseOf(0, 4), 0);
        Checks.due(8, "on its page", x.phraseOf(0, 5), 0);
        Checks.due(8, "its client", x.phraseOf(0, 6), 1);
        Checks.due(8, "its day", x.phraseOf(0, 7), 4);
        Checks.due(8, "its home", x.phraseOf(0, 8), Checks.NOT_FOUND);
        Checks.due(8, "its home's page", x.phraseOf(0, 9), Checks.NOT_FOUND);
        Checks.due(8, "lift of a lent one", x.lift(0), Checks.NOT_POSSIBLE);
        Checks.due(8, "lent ones", x.count(5), 1);
        Checks.due(8, "lent from it", x.clientOf(0, 5), 0);
        Checks.due(8, "buyBack of where it is", x.buyBack(0), 50);
        Checks.due(8, "it is free then", x.count(4), 2);
        Checks.due(8, "lent ones", x.count(5), 0);
        Checks.due(8, "its day", x.phraseOf(0, 7), Checks.NOT_FOUND);
    }

    private static void buyBackOfTheOtherBook() {
        LentPhrases x = Checks.oneLoan();
        Checks.due(8, "buyBack(1)", x.buyBack(1), 50);
        Checks.due(8, "it is at home", x.phraseOf(0, 4), 0);
        Checks.due(8, "on its page", x.phraseOf(0, 5), 1);
        Checks.due(8, "not lent", x.phraseOf(0, 7), Checks.NOT_FOUND);
        Checks.due(8, "nothing is paid back", x.clientOf(1, 1), 1000 - 50 - 20 + 50);
        Checks.due(8, "nothing is paid back", x.clientOf(0, 1), 1000 - 100 + 20);
        Checks.due(8, "fees so far", x.count(7), 20);
        Checks.due(8, "places left at home", x.on(0, 1, 10), 2);
    }

    private static void buyBackMovesNumbers() {
        LentPhrases x = new LentPhrases();
        x.client(0, 9999);
        x.client(1, 9999);
        x.chapter(0, 1, 1);
        x.chapter(0, 2, 2);
        x.chapter(1, 3, 3);
        x.phrase(0, 1, -1, -1);
        x.phrase(0, 2, -1, -1);
        x.phrase(0, 3, -1, -1);
        x.place(0, 1, 1);
        x.lend(0, 2, 2, 20);
        x.place(1, 1, 0);
        x.place(2, 0, 0);
        x.pass(1);
        Checks.due(8, "buyBack(0)", x.buyBack(0), 0);
        Checks.due(8, "chapters", x.count(1), 2);
        Checks.due(8, "pages of 0", x.chapterOf(0, 1), 2);
        Checks.due(8, "price of 1", x.chapterOf(1, 2), 3);
        Checks.due(8, "client of 1", x.chapterOf(1, 0), 1);
        Checks.due(8, "chapterOf(2, 0)", x.chapterOf(2, 0), Checks.INVALID);
        Checks.due(8, "where the lent one is", x.phraseOf(0, 4), 1);
        Checks.due(8, "its home", x.phraseOf(0, 8), 0);
        Checks.due(8, "where the other is", x.phraseOf(1, 4), 0);
        Checks.due(8, "the third is free", x.phraseOf(2, 4), Checks.NOT_FOUND);
        x.pass(19);
        Checks.due(8, "the lent one is at home", x.phraseOf(0, 4), 0);
        Checks.due(8, "on its page", x.phraseOf(0, 5), 1);
    }

    private static void buyBackOfBoth() {
        LentPhrases x = Checks.oneLoan();
        x.buyBack(0);
        x.chapter(0, 2, 0);
        Checks.due(8, "a new chapter is no home", x.phraseOf(0, 8), Checks.NOT_FOUND);
        Checks.due(8, "and keeps no place", x.on(1, 1, 10), 3);
        Checks.due(10, "pass(4)", x.pass(4), 1);
        Checks.due(10, "it is free", x.phraseOf(0, 4), Checks.NOT_FOUND);
    }

    private static void sell() {
        LentPhrases x = new LentPhrases();
        x.client(0, 500);
        x.client(1, 100);
        x.chapter(0, 2, 50);
        x.pass(10);
        int[][] wrong = {{-1, 1, 0}, {1, 1, 0}, {0, -1, 0}, {0, 2, 0}, {0, 1, -1}, {0, 1, 1000}};
        for (int[] row : wrong) {
            Checks.due(9, "sell(" + row[0] + ", " + row[1] + ", " + row[2] + ")",
                x.sell(row[0], row[1], row[2]), Checks.INVALID);
        }
        Checks.due(9, "to its own client", x.sell(0, 0, 1), Checks.NOT_POSSIBLE);
        Checks.due(9, "dearer than the purse", x.sell(0, 1, 101), Checks.NOT_POSSIBLE);
        Checks.due(9, "sell(0, 1, 100)", x.sell(0, 1, 100), 0);
        Checks.due(9, "who buys", x.clientOf(1, 1), 0);
        Checks.due(9, "who sells", x.clientOf(0, 1), 550);
        Checks.due(9, "the writer", x.count(6), 50);
        Checks.due(9, "its client", x.chapterOf(0, 0), 1);
        Checks.due(9, "its pages", x.chapterOf(0, 1), 2);
        Checks.due(9, "its price", x.chapterOf(0, 2), 100);
        Checks.due(9, "its day", x.chapterOf(0, 3), 10);
        Checks.due(9, "what would be paid back", x.chapterOf(0, 5), 100);
    }

    private static void sellEndsLoans() {
        LentPhrases x = Checks.oneLoan();
        Checks.due(9, "home to the one who has it", x.sell(0, 1, 0), 1);
        Checks.due(9, "it is at home", x.phraseOf(0, 4), 0);
        Checks.due(9, "on its page", x.phraseOf(0, 5), 1);
        Checks.due(9, "not lent", x.count(5), 0);
        LentPhrases y = Checks.oneLoan();
        Checks.due(9, "where it is to its lender", y.sell(1, 0, 0), 1);
        Checks.due(9, "it is at home", y.phraseOf(0, 4), 0);
        Checks.due(9, "not lent", y.count(5), 0);
        Checks.due(9, "nothing is paid back", y.clientOf(0, 1), 920);
    }

    private static void sellKeepsOtherLoans() {
        LentPhrases x = Checks.oneLoan();
        x.client(2, 100);
        Checks.due(9, "home to a third", x.sell(0, 2, 10), 0);
        Checks.due(9, "still lent", x.phraseOf(0, 8), 0);
        Checks.due(9, "lent from the third", x.clientOf(2, 5), 1);
        Checks.due(9, "where it is to the first", x.sell(1, 0, 10), 0);
        Checks.due(9, "still lent", x.count(5), 1);
        x.place(1, 1, 1);
        x.lend(1, 0, 0, 2);
        Checks.due(9, "two loans between them end", x.sell(0, 0, 10), 2);
        LentPhrases y = Checks.oneLoan();
        y.buyBack(0);
        Checks.due(9, "one without a home stays", y.sell(0, 0, 10), 0);
        Checks.due(9, "it is lent", y.count(5), 1);
    }

    private static void pass() {
        LentPhrases x = Checks.oneLoan();
        Checks.due(10, "pass(0)", x.pass(0), Checks.INVALID);
        Checks.due(10, "pass(100)", x.pass(100), Checks.INVALID);
        Checks.due(10, "pass(MAX)", x.pass(Integer.MAX_VALUE), Checks.INVALID);
        Checks.due(10, "pass(-1)", x.pass(-1), Checks.INVALID);
        Checks.due(10, "the day", x.count(3), 0);
        Checks.due(10, "pass(3)", x.pass(3), 0);
        Checks.due(10, "still lent", x.phraseOf(0, 4), 1);
        Checks.due(10, "pass(1)", x.pass(1), 1);
        Checks.due(10, "at home", x.phraseOf(0, 4), 0);
        Checks.due(10, "on its page", x.phraseOf(0, 5), 1);
        Checks.due(10, "its day", x.phraseOf(0, 7), Checks.NOT_FOUND);
        Checks.due(10, "how often it was lent", x.phraseOf(0, 10), 1);
        Checks.due(10, "the day", x.count(3), 4);
        Checks.due(10, "pass(99)", x.pass(99), 0);
        Checks.due(10, "the day", x.count(3), 103);
    }

    private static void passOfManyLoans() {
        LentPhrases x = Checks.twoBooks();
        x.place(0, 0, 0);
        x.place(1, 0, 0);
        x.phrase(2, 1, -1, -1);
        x.place(2, 0, 1);
        x.lend(0, 1, 0, 2);
        x.lend(1, 1, 0, 3);
        x.lend(2, 1, 1, 5);
        Checks.due(10, "pass(4)", x.pass(4), 2);
        Checks.due(10, "the third is lent", x.phraseOf(2, 7), 5);
        Checks.due(10, "pass(20)", x.pass(20), 1);
        Checks.due(10, "again lent", x.lend(0, 1, 1, 1), 5);
        Checks.due(10, "how often", x.phraseOf(0, 10), 2);
    }

    private static void passToTheLastDay() {
        LentPhrases x = new LentPhrases();
        for (int i = 0; i < 100; i++) {
            x.pass(99);
        }
        Checks.due(10, "the day", x.count(3), 9900);
        Checks.due(10, "pass(100)", x.pass(100), Checks.INVALID);
        Checks.due(10, "pass(98)", x.pass(98), 0);
        Checks.due(10, "pass(2)", x.pass(2), Checks.LIMIT);
        Checks.due(10, "pass(1)", x.pass(1), 0);
        Checks.due(10, "the day", x.count(3), 9999);
        Checks.due(10, "pass(1)", x.pass(1), Checks.LIMIT);
        Checks.due(10, "pass(0)", x.pass(0), Checks.INVALID);
        Checks.due(10, "the day", x.count(3), 9999);
    }

    private static void set() {
        LentPhrases x = new LentPhrases();
        int[][] wrong = {{-1, 1}, {2, 1}, {0, -1}, {0, 100}, {1, -1}, {1, 101}};
        for (int[] row : wrong) {
            Checks.due(11, "set(" + row[0] + ", " + row[1] + ")", x.set(row[0], row[1]), Checks.INVALID);
        }
        Checks.due(11, "set(0, 99)", x.set(0, 99), 5);
        Checks.due(11, "set(0, 0)", x.set(0, 0), 99);
        Checks.due(11, "set(1, 100)", x.set(1, 100), 2);
        Checks.due(11, "set(1, 0)", x.set(1, 0), 100);
        Checks.due(11, "count(20)", x.count(20), 0);
        Checks.due(11, "count(21)", x.count(21), 0);
        Checks.due(11, "history", x.count(8), 4);
        x.client(0, 100);
        x.chapter(0, 1, 100);
        x.pass(99);
        Checks.due(11, "nothing is lost", x.chapterOf(0, 5), 100);
        x.set(1, 1);
        Checks.due(11, "a hundredth each day", x.chapterOf(0, 5), 1);
        x.pass(1);
        Checks.due(11, "all is lost", x.chapterOf(0, 5), 0);
        x.pass(1);
        Checks.due(11, "no more than all", x.chapterOf(0, 5), 0);
    }
}
