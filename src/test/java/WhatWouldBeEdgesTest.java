/** Boundary cases of promises 20 and 21: coming, best. */
public final class WhatWouldBeEdgesTest {
    private static final int NOT_FOUND = LentPhrases.NOT_FOUND;

    public static void main(String[] args) {
        comingOfNone();
        comingDays();
        comingWithoutHomes();
        comingWhat();
        comingAtTheLastDay();
        comingOutOfRange();
        bestOfOne();
        bestOfEqualOnes();
        bestOfTen();
        bestOfLoans();
        bestOutOfRange();
        Checks.finish("WhatWouldBeEdgesTest");
    }

    private static void comingOfNone() {
        Edges.says(20, "Tells what days to come bring, if nothing else is done.");
        LentPhrases x = Books.two();
        String before = Edges.everything(x);
        Edges.due("coming(1, 0)", x.coming(1, 0), 0);
        Edges.due("coming(99, 0)", x.coming(99, 0), 0);
        Edges.due("coming(99, 1)", x.coming(99, 1), 0);
        Edges.same("coming() changes nothing", Edges.everything(x), before);
    }

    private static void comingDays() {
        Edges.says(20, "`days`: 1 to 99");
        LentPhrases x = Books.threeLoans();
        int[] days = {1, 9, 10, 19, 20, 21, 99};
        int[] home = {1, 1, 2, 2, 3, 3, 3};
        int[] tells = {1, 1, 2, 2, 2, 2, 2};
        for (int i = 0; i < days.length; i++) {
            Edges.due("coming(" + days[i] + ", 0)", x.coming(days[i], 0), home[i]);
            Edges.due("coming(" + days[i] + ", 1)", x.coming(days[i], 1), tells[i]);
        }
        x.pass(10);
        Edges.due("coming(9, 0) on the day 10", x.coming(9, 0), 0);
        Edges.due("coming(10, 0) on the day 10", x.coming(10, 0), 1);
        Edges.due("the day", x.count(3), 10);
        Edges.refusedOutside(Books::loan, "coming(?, 0)", 1, 99, (y, day) -> y.coming(day, 0));
        Edges.refusedOutside(Books::loan, "coming(?, 1)", 1, 99, (y, day) -> y.coming(day, 1));
    }

    private static void comingWithoutHomes() {
        Edges.says(20, "`what`: 0: phrases that go home, or are free, in them; 1: tells in all books behind them");
        LentPhrases x = Books.threeLoans();
        x.buyBack(0);
        Edges.due("tells before", x.tells(1, 15), 2);
        Edges.due("coming(1, 0)", x.coming(1, 0), 1);
        Edges.due("coming(1, 1)", x.coming(1, 1), 1);
        Edges.due("coming(19, 1)", x.coming(19, 1), 1);
        Edges.due("coming(20, 0)", x.coming(20, 0), 3);
        Edges.due("coming(20, 1)", x.coming(20, 1), 0);
        Edges.due("as pass(20)", x.pass(20), 3);
    }

    private static void comingWhat() {
        Edges.says(20, "`what`: 0: phrases that go home, or are free, in them; 1: tells in all books behind them");
        Edges.refusedOutside(Books::loan, "coming(1, ?)", 0, 1, (y, what) -> y.coming(1, what));
        Edges.refusedOutside(Books::loan, "coming(99, ?)", 0, 1, (y, what) -> y.coming(99, what));
    }

    private static void comingAtTheLastDay() {
        Edges.says(20, "Tells what days to come bring, if nothing else is done.");
        LentPhrases x = Books.lastDay();
        Edges.due("coming(99, 0)", x.coming(99, 0), 0);
        x.lend(0, 1, 0, 1);
        Edges.due("coming(1, 0)", x.coming(1, 0), 1);
        Edges.due("coming(1, 1)", x.coming(1, 1), 0);
        Edges.due("tells now", x.tells(1, 15), 1);
    }

    private static void comingOutOfRange() {
        Edges.says(20, "Returns the number; INVALID_ARGUMENT if an argument is out of range.");
        Edges.refusedOutside(Books::lastDay, "coming(?, 0)", 1, 99, (y, days) -> y.coming(days, 0));
        Edges.refusedOutside(Books::fresh, "coming(?, 1)", 1, 99, (y, days) -> y.coming(days, 1));
        Edges.refusedOutside(Books::fresh, "coming(1, ?)", 0, 1, (y, what) -> y.coming(1, what));
    }

    private static void bestOfOne() {
        Edges.says(21, "`what`: 0: the chapter; 1: the tells then");
        LentPhrases x = new LentPhrases();
        x.client(0, 100);
        x.chapter(0, 1, 0);
        Edges.due("best(0) of one", x.best(0), 0);
        Edges.due("best(1) of one", x.best(1), 0);
        x.phrase(1, 1, -1, -1);
        x.place(0, 0, 0);
        Edges.due("best(1) of a tell", x.best(1), 0);
        Edges.due("the tell is there", x.tells(0, 15), 1);
    }

    private static void bestOfEqualOnes() {
        Edges.says(21, "Finds the chapter whose buying back would leave the fewest tells in all books, of several "
            + "the lowest.");
        LentPhrases x = Books.tenChapters();
        Edges.due("ten without tells", x.best(0), 0);
        Edges.due("tells of that", x.best(1), 0);
        x.phrase(2, 1, -1, -1);
        x.phrase(2, 2, -1, -1);
        x.place(0, 4, 0);
        x.place(1, 7, 0);
        Edges.due("two with a tell each", x.best(0), 4);
        Edges.due("tells of that", x.best(1), 1);
    }

    private static void bestOfTen() {
        Edges.says(21, "Finds the chapter whose buying back would leave the fewest tells in all books, of several "
            + "the lowest.");
        LentPhrases x = tellsInAll();
        Edges.due("the greatest chapter", x.best(0), 9);
        Edges.due("tells of that", x.best(1), 9);
        Edges.same("best() changes nothing", Edges.everything(x), Edges.everything(tellsInAll()));
        x.place(11, 0, 0);
        Edges.due("the least chapter, as many", x.best(0), 0);
        Edges.due("tells of that", x.best(1), 10);
    }

    /** A tell on the last page of each of ten chapters, and a second one on that of the tenth; phrase 11 is free. */
    private static LentPhrases tellsInAll() {
        LentPhrases x = Books.tenChapters();
        for (int i = 0; i < 11; i++) {
            x.phrase(2, i, -1, -1);
            x.place(i, Math.min(i, 9), Math.min(i, 9));
        }
        x.phrase(2, 11, -1, -1);
        return x;
    }

    private static void bestOfLoans() {
        Edges.says(21, "Finds the chapter whose buying back would leave the fewest tells in all books, of several "
            + "the lowest.");
        LentPhrases x = Books.loan();
        Edges.due("the one to which it is lent", x.best(0), 1);
        Edges.due("it goes home and is no tell there", x.best(1), 0);
        LentPhrases gone = Books.homeless();
        gone.chapter(0, 1, 0);
        Edges.due("without a home it is free", gone.best(0), 0);
        Edges.due("tells of that", gone.best(1), 0);
    }

    private static void bestOutOfRange() {
        Edges.says(21, "Returns the number; INVALID_ARGUMENT if what is out of range; NOT_FOUND if there is no "
            + "chapter.");
        Edges.refused(Books::fresh, "best(0) of none", y -> y.best(0), NOT_FOUND);
        Edges.refused(Books::fresh, "best(1) of none", y -> y.best(1), NOT_FOUND);
        Edges.refused(Books::fiveClients, "best(0) of clients alone", y -> y.best(0), NOT_FOUND);
        Edges.refusedOutside(Books::fresh, "best(?) of none", 0, 1, (y, what) -> y.best(what));
        Edges.refusedOutside(Books::loan, "best(?)", 0, 1, (y, what) -> y.best(what));
    }
}
