/** Promises 20 and 21: coming, best. */
public final class WhatWouldBeTest {
    public static void main(String[] args) {
        coming();
        comingOfMany();
        comingBehindTheLastDay();
        best();
        bestOfLoans();
        bestOfEqualOnes();
        Checks.finish("WhatWouldBeTest");
    }

    private static void coming() {
        LentPhrases x = Checks.oneLoan();
        Checks.due(20, "coming(3, 0)", x.coming(3, 0), 0);
        Checks.due(20, "coming(4, 0)", x.coming(4, 0), 1);
        Checks.due(20, "coming(99, 0)", x.coming(99, 0), 1);
        Checks.due(20, "coming(3, 1)", x.coming(3, 1), 1);
        Checks.due(20, "coming(4, 1)", x.coming(4, 1), 0);
        Checks.due(20, "coming(0, 0)", x.coming(0, 0), Checks.INVALID);
        Checks.due(20, "coming(100, 0)", x.coming(100, 0), Checks.INVALID);
        Checks.due(20, "coming(MAX, 0)", x.coming(Integer.MAX_VALUE, 0), Checks.INVALID);
        Checks.due(20, "coming(1, -1)", x.coming(1, -1), Checks.INVALID);
        Checks.due(20, "coming(1, 2)", x.coming(1, 2), Checks.INVALID);
        Checks.due(20, "the day", x.count(3), 0);
        x.pass(2);
        Checks.due(20, "coming(1, 0) on day 2", x.coming(1, 0), 0);
        Checks.due(20, "coming(2, 0) on day 2", x.coming(2, 0), 1);
        x.pass(2);
        Checks.due(20, "coming(99, 0) at home", x.coming(99, 0), 0);
    }

    private static void comingOfMany() {
        LentPhrases x = Checks.twoBooks();
        x.phrase(1, 1, -1, -1);
        x.place(0, 0, 0);
        x.place(1, 0, 0);
        x.place(2, 0, 0);
        x.lend(0, 1, 0, 2);
        x.lend(1, 1, 0, 5);
        x.lend(2, 1, 0, 9);
        Checks.due(20, "tells before", x.tells(0, 15) + x.tells(1, 15), 1);
        Checks.due(20, "coming(2, 1)", x.coming(2, 1), 0);
        Checks.due(20, "coming(5, 1)", x.coming(5, 1), 1);
        Checks.due(20, "coming(9, 1)", x.coming(9, 1), 2);
        x.buyBack(0);
        Checks.due(20, "coming(8, 0), homes gone", x.coming(8, 0), 2);
        Checks.due(20, "coming(9, 0), homes gone", x.coming(9, 0), 3);
        Checks.due(20, "coming(9, 1), homes gone", x.coming(9, 1), 0);
    }

    private static void comingBehindTheLastDay() {
        LentPhrases x = Checks.twoBooks();
        x.place(0, 0, 0);
        for (int i = 0; i < 101; i++) {
            x.pass(99);
        }
        x.lend(0, 1, 0, 20);
        Checks.due(20, "its day", x.phraseOf(0, 7), 10019);
        Checks.due(20, "coming(19, 0)", x.coming(19, 0), 0);
        Checks.due(20, "coming(20, 0)", x.coming(20, 0), 1);
    }

    private static void best() {
        LentPhrases x = new LentPhrases();
        Checks.due(21, "best(0) of none", x.best(0), Checks.NOT_FOUND);
        Checks.due(21, "best(1) of none", x.best(1), Checks.NOT_FOUND);
        Checks.due(21, "best(-1) of none", x.best(-1), Checks.INVALID);
        Checks.due(21, "best(2) of none", x.best(2), Checks.INVALID);
        x.client(0, 100);
        x.client(0, 100);
        x.chapter(0, 1, 0);
        x.chapter(0, 1, 0);
        x.chapter(1, 1, 0);
        for (int i = 0; i < 4; i++) {
            x.phrase(1, i, -1, -1);
        }
        x.place(0, 0, 0);
        x.place(1, 2, 0);
        x.place(2, 2, 0);
        x.place(3, 1, 0);
        Checks.due(21, "best(0)", x.best(0), 2);
        Checks.due(21, "best(1)", x.best(1), 2);
        Checks.due(21, "chapters behind it", x.count(1), 3);
        Checks.due(21, "best(2)", x.best(2), Checks.INVALID);
    }

    private static void bestOfLoans() {
        LentPhrases x = new LentPhrases();
        x.client(0, 500);
        x.client(1, 500);
        x.chapter(0, 1, 0);
        x.chapter(1, 1, 0);
        x.chapter(1, 1, 0);
        x.phrase(1, 1, -1, -1);
        x.phrase(1, 2, -1, -1);
        x.phrase(0, 3, -1, -1);
        x.place(0, 1, 0);
        x.place(1, 1, 0);
        x.place(2, 2, 0);
        x.lend(0, 0, 0, 5);
        x.lend(1, 0, 0, 5);
        Checks.due(21, "best(0): they go home", x.best(0), 0);
        Checks.due(21, "best(1): they go home", x.best(1), 1);
        x.lift(2);
        x.phrase(0, 4, -1, -1);
        x.place(3, 0, 0);
        x.lend(3, 2, 0, 1);
        Checks.due(21, "best(0): one stays", x.best(0), 0);
        Checks.due(21, "best(1): one stays", x.best(1), 1);
    }

    private static void bestOfEqualOnes() {
        LentPhrases x = Checks.twoBooks();
        Checks.due(21, "best(0) without tells", x.best(0), 0);
        Checks.due(21, "best(1) without tells", x.best(1), 0);
        x.place(0, 1, 0);
        Checks.due(21, "best(0) with one", x.best(0), 1);
        x.place(1, 0, 0);
        Checks.due(21, "best(0) of equal ones", x.best(0), 0);
        Checks.due(21, "best(1) of equal ones", x.best(1), 1);
    }
}
