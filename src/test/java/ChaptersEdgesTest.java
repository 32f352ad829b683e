/** Boundary cases of promises 8 to 11: buyBack, sell, pass, set. */
public final class ChaptersEdgesTest {
    private static final int INVALID = LentPhrases.INVALID_ARGUMENT;
    private static final int NOT_POSSIBLE = LentPhrases.NOT_POSSIBLE;
    private static final int LIMIT = LentPhrases.LIMIT_REACHED;

    public static void main(String[] args) {
        buyBackOfAnEmptyOne();
        buyBackChapter();
        buyBackReturns();
        sellOfAnEmptyOne();
        sellChapter();
        sellClient();
        sellPrice();
        sellReturns();
        sellImpossible();
        passWithoutLoans();
        passDays();
        passReturns();
        passToTheLastDay();
        setChangesOne();
        setWhat();
        setValue();
        setReturns();
        Checks.finish("ChaptersEdgesTest");
    }

    private static LentPhrases dayBeforeTheLast() {
        LentPhrases x = Checks.twoBooks();
        for (int i = 0; i < 100; i++) {
            x.pass(99);
        }
        x.pass(98);
        x.keep();
        return x;
    }

    private static void buyBackOfAnEmptyOne() {
        Edges.says(8, "Buys a chapter back.");
        LentPhrases x = Checks.twoBooks();
        Edges.due("buyBack(1)", x.buyBack(1), 50);
        Edges.due("chapters", x.count(1), 1);
        Edges.due("free ones", x.count(4), 2);
        Edges.due("buyBack(0), the only one", x.buyBack(0), 100);
        Edges.due("chapters", x.count(1), 0);
        Edges.due("buyBack(0), none", x.buyBack(0), INVALID);
        Edges.due("the account", x.count(6), 0);
    }

    private static void buyBackChapter() {
        Edges.says(8, "`chapter`: number of the chapter");
        LentPhrases x = Books.tenChapters();
        Edges.due("the greatest", x.buyBack(9), 9);
        Edges.due("it is gone", x.buyBack(9), INVALID);
        Edges.due("the least", x.buyBack(0), 0);
        Edges.due("the greatest then", x.buyBack(7), 8);
        Edges.refusedOutside(Books::two, "buyBack(?)", 0, 1, (y, chapter) -> y.buyBack(chapter));
        Edges.refusedOutside(Books::tenChapters, "buyBack(?)", 0, 9, (y, chapter) -> y.buyBack(chapter));
        Edges.refusedOutside(Books::homeless, "buyBack(?)", 0, 0, (y, chapter) -> y.buyBack(chapter));
    }

    private static void buyBackReturns() {
        Edges.says(8, "Returns what is paid; INVALID_ARGUMENT.");
        LentPhrases x = new LentPhrases();
        x.client(0, 9999);
        int[] prices = {0, 999, 1, 100};
        for (int price : prices) {
            x.chapter(0, 1, price);
        }
        Edges.due("the least price", x.buyBack(0), 0);
        Edges.due("the greatest price, all of it", x.buyBack(0), 999);
        Edges.due("the purse", x.clientOf(0, 1), 9999 - 1 - 100);
        x.pass(1);
        Edges.due("less than 1", x.buyBack(0), 0);
        x.pass(48);
        Edges.due("a day ahead of nothing", x.chapterOf(0, 5), 2);
        x.pass(1);
        Edges.due("nothing", x.buyBack(0), 0);
        Edges.due("the purse", x.clientOf(0, 1), 9999 - 1 - 100);
        Edges.due("the account", x.count(6), 101);
    }

    private static void sellOfAnEmptyOne() {
        Edges.says(9, "Sells a chapter to another client.");
        LentPhrases x = Checks.twoBooks();
        Edges.due("sell(0, 1, 0)", x.sell(0, 1, 0), 0);
        Edges.due("chapters of the one", x.clientOf(0, 2), 0);
        Edges.due("chapters of the other", x.clientOf(1, 2), 2);
        Edges.due("chapters", x.count(1), 2);
        Edges.due("its pages", x.chapterOf(0, 1), 2);
    }

    private static void sellChapter() {
        Edges.says(9, "`chapter`: number of the chapter");
        LentPhrases x = Books.tenChapters();
        Edges.due("the greatest", x.sell(9, 0, 1), 0);
        Edges.due("its client", x.chapterOf(9, 0), 0);
        Edges.due("the least", x.sell(0, 1, 1), 0);
        Edges.due("its client", x.chapterOf(0, 0), 1);
        Edges.refusedOutside(Books::two, "sell(?, 1, 0)", 0, 1, (y, chapter) -> y.sell(chapter, 1, 0));
        Edges.refusedOutside(Books::tenChapters, "sell(?, 1, 0)", 0, 9, (y, chapter) -> y.sell(chapter, 1, 0));
    }

    private static void sellClient() {
        Edges.says(9, "`client`: number of the client");
        LentPhrases x = Books.fiveClients();
        x.chapter(2, 1, 0);
        Edges.due("to the greatest", x.sell(0, 4, 40), 0);
        Edges.due("its client", x.chapterOf(0, 0), 4);
        Edges.due("to the least", x.sell(0, 0, 0), 0);
        Edges.due("its client", x.chapterOf(0, 0), 0);
        Edges.refusedOutside(Books::two, "sell(0, ?, 0)", 0, 1, (y, client) -> y.sell(0, client, 0));
    }

    private static void sellPrice() {
        Edges.says(9, "`price`: 0 to 999");
        LentPhrases x = new LentPhrases();
        x.client(0, 999);
        x.client(1, 999);
        x.chapter(0, 1, 500);
        Edges.due("for the greatest", x.sell(0, 1, 999), 0);
        Edges.due("its price", x.chapterOf(0, 2), 999);
        Edges.due("who buys", x.clientOf(1, 1), 0);
        Edges.due("who sells", x.clientOf(0, 1), 499 + 999);
        Edges.due("for the least", x.sell(0, 0, 0), 0);
        Edges.due("its price", x.chapterOf(0, 2), 0);
        Edges.due("who sells", x.clientOf(1, 1), 0);
        Edges.refusedOutside(Books::two, "sell(0, 1, ?)", 0, 999, (y, price) -> y.sell(0, 1, price));
    }

    private static void sellReturns() {
        Edges.says(9, "Returns how many phrases go home by that; INVALID_ARGUMENT if an argument is out of range; "
            + "NOT_POSSIBLE if it is the client's already, or the purse has less.");
        LentPhrases none = Books.two();
        Edges.due("none is lent", none.sell(0, 1, 0), 0);
        LentPhrases home = Books.threeLoans();
        Edges.due("a whole page of them", home.sell(0, 1, 0), 3);
        Edges.due("lent ones", home.count(5), 0);
        Edges.due("places at home", home.on(0, 0, 10), 0);
        LentPhrases there = Books.threeLoans();
        Edges.due("back from a whole page", there.sell(1, 0, 0), 3);
        Edges.due("places there", there.on(1, 0, 10), 3);
        LentPhrases third = Books.threeLoans();
        third.client(3, 999);
        Edges.due("to a third client", third.sell(1, 2, 999), 0);
        Edges.due("lent ones", third.count(5), 3);
        Edges.due("lent to the third", third.clientOf(2, 4), 3);
        LentPhrases gone = Books.threeLoans();
        gone.buyBack(0);
        Edges.due("without homes", gone.sell(0, 0, 0), 0);
        Edges.due("lent ones", gone.count(5), 3);
    }

    private static void sellImpossible() {
        Edges.says(9, "Returns how many phrases go home by that; INVALID_ARGUMENT if an argument is out of range; "
            + "NOT_POSSIBLE if it is the client's already, or the purse has less.");
        Edges.refused(Books::two, "to its client", y -> y.sell(0, 0, 1), NOT_POSSIBLE);
        Edges.refused(Books::two, "to its client for nothing", y -> y.sell(0, 0, 0), NOT_POSSIBLE);
        Edges.refused(Books::loan, "to its client, with a loan", y -> y.sell(1, 1, 0), NOT_POSSIBLE);
        Edges.refused(Books::tenChapters, "with one less", y -> y.sell(0, 1, 31), NOT_POSSIBLE);
        Edges.refused(Books::tenChapters, "to its client, too dear", y -> y.sell(0, 0, 999), NOT_POSSIBLE);
        Edges.refused(Books::tenChapters, "to its client, far too dear", y -> y.sell(0, 0, 1000), INVALID);
        LentPhrases x = Books.tenChapters();
        Edges.due("with just as much", x.sell(0, 1, 30), 0);
        Edges.due("the purse then", x.clientOf(1, 1), 0);
        Edges.due("for nothing, with nothing", x.sell(2, 1, 0), 0);
        Edges.due("for 1, with nothing", x.sell(4, 1, 1), NOT_POSSIBLE);
    }

    private static void passWithoutLoans() {
        Edges.says(10, "Lets days pass.");
        LentPhrases x = new LentPhrases();
        Edges.due("pass(1)", x.pass(1), 0);
        Edges.due("the day", x.count(3), 1);
        Edges.due("pass(99)", x.pass(99), 0);
        Edges.due("the day", x.count(3), 100);
    }

    private static void passDays() {
        Edges.says(10, "`days`: 1 to 99");
        LentPhrases x = Books.threeLoans();
        Edges.due("pass(1)", x.pass(1), 1);
        Edges.due("pass(99)", x.pass(99), 2);
        Edges.refusedOutside(Books::loan, "pass(?)", 1, 99, (y, days) -> y.pass(days));
        Edges.refusedOutside(Books::lastDay, "pass(?)", 1, 99, (y, days) -> y.pass(days));
    }

    private static void passReturns() {
        Edges.says(10, "Returns how many phrases go home in them, or are free; INVALID_ARGUMENT if days is out of "
            + "range; LIMIT_REACHED if the day would be above 9999.");
        LentPhrases x = Books.threeLoans();
        Edges.due("pass(1), the day of one", x.pass(1), 1);
        Edges.due("pass(8), a day ahead of the next", x.pass(8), 0);
        Edges.due("pass(1), the day of the next", x.pass(1), 1);
        Edges.due("pass(9), a day ahead of the last", x.pass(9), 0);
        Edges.due("pass(1), the day of the last", x.pass(1), 1);
        Edges.due("pass(99)", x.pass(99), 0);
        LentPhrases all = Books.threeLoans();
        Edges.due("pass(20), all", all.pass(20), 3);
        LentPhrases free = Books.threeLoans();
        free.buyBack(0);
        Edges.due("pass(10), two without homes", free.pass(10), 2);
        Edges.due("they are free", free.count(4), 2);
        Edges.due("the last is lent", free.count(5), 1);
        Edges.due("pass(10)", free.pass(10), 1);
        Edges.due("all are free", free.count(4), 3);
    }

    private static void passToTheLastDay() {
        Edges.says(10, "Returns how many phrases go home in them, or are free; INVALID_ARGUMENT if days is out of "
            + "range; LIMIT_REACHED if the day would be above 9999.");
        LentPhrases x = dayBeforeTheLast();
        Edges.due("the day", x.count(3), 9998);
        Edges.refused(ChaptersEdgesTest::dayBeforeTheLast, "pass(2) to the day 10000", y -> y.pass(2), LIMIT);
        Edges.refused(ChaptersEdgesTest::dayBeforeTheLast, "pass(99)", y -> y.pass(99), LIMIT);
        Edges.refused(ChaptersEdgesTest::dayBeforeTheLast, "pass(100)", y -> y.pass(100), INVALID);
        Edges.due("pass(1) to the day 9999", x.pass(1), 0);
        Edges.due("the day", x.count(3), 9999);
        Edges.refused(Books::lastDay, "pass(1) on the last day", y -> y.pass(1), LIMIT);
        Edges.refused(Books::lastDay, "pass(0) on the last day", y -> y.pass(0), INVALID);
        LentPhrases lent = Books.lastDay();
        Edges.due("a loan that never ends", lent.lend(0, 1, 0, 20), 100);
        Edges.due("its day", lent.phraseOf(0, 7), 10019);
        Edges.due("pass(1)", lent.pass(1), LIMIT);
        Edges.due("it is lent", lent.count(5), 1);
        Edges.due("till its home is sold", lent.sell(0, 1, 0), 1);
    }

    private static void setChangesOne() {
        Edges.says(11, "Sets a setting.");
        LentPhrases x = new LentPhrases();
        Edges.due("set(0, 7)", x.set(0, 7), 5);
        Edges.due("the other", x.count(21), 2);
        Edges.due("set(1, 8)", x.set(1, 8), 2);
        Edges.due("the other", x.count(20), 7);
        Edges.due("set(0, 7), as it is", x.set(0, 7), 7);
        Edges.due("a change also then", x.count(8), 3);
    }

    private static void setWhat() {
        Edges.says(11, "`what`: 0 or 1");
        LentPhrases x = new LentPhrases();
        Edges.due("the least", x.set(0, 0), 5);
        Edges.due("the greatest", x.set(1, 0), 2);
        Edges.refusedOutside(Books::two, "set(?, 5)", 0, 1, (y, what) -> y.set(what, 5));
        Edges.refused(Books::two, "set(20, 5), as count() calls it", y -> y.set(20, 5), INVALID);
    }

    private static void setValue() {
        Edges.says(11, "`value`: a value in its range");
        LentPhrases x = new LentPhrases();
        Edges.due("set(0, 0)", x.set(0, 0), 5);
        Edges.due("set(0, 99)", x.set(0, 99), 0);
        Edges.due("set(1, 0)", x.set(1, 0), 2);
        Edges.due("set(1, 100)", x.set(1, 100), 0);
        Edges.due("the fee of a day", x.count(20), 99);
        Edges.due("what is lost by each day", x.count(21), 100);
        Edges.refusedOutside(Books::two, "set(0, ?)", 0, 99, (y, value) -> y.set(0, value));
        Edges.refusedOutside(Books::two, "set(1, ?)", 0, 100, (y, value) -> y.set(1, value));
    }

    private static void setReturns() {
        Edges.says(11, "Returns what it was; INVALID_ARGUMENT if an argument is out of range.");
        LentPhrases x = new LentPhrases();
        Edges.due("the first value of 0", x.set(0, 99), 5);
        Edges.due("refused", x.set(0, 100), INVALID);
        Edges.due("what it was ahead of that", x.set(0, 0), 99);
        Edges.due("the least", x.set(0, 1), 0);
        Edges.due("the first value of 1", x.set(1, 100), 2);
        x.undo();
        Edges.due("undone", x.set(1, 0), 2);
        Edges.due("the least", x.set(1, 1), 0);
    }
}
