/** Promises 12 to 19: clientOf, chapterOf, phraseOf, find, on, tells, alike, count. */
public final class WhatThereIsTest {
    public static void main(String[] args) {
        clientOf();
        chapterOf();
        phraseOf();
        phraseOfLent();
        find();
        on();
        tells();
        alike();
        count();
        queriesChangeNothing();
        Checks.finish("WhatThereIsTest");
    }

    /** The loan of Checks, and on page 0 of chapter 0 phrase 1 (voice 1), on page 1 phrase 2 (voice 3). */
    private static LentPhrases fullBooks() {
        LentPhrases x = Checks.oneLoan();
        x.phrase(3, 7, 8, 9);
        x.phrase(2, 9, -1, -1);
        x.place(1, 0, 0);
        x.place(2, 0, 1);
        return x;
    }

    private static void clientOf() {
        LentPhrases x = fullBooks();
        x.chapter(0, 20, 1);
        int[] first = {0, 1000 - 100 + 20 - 1, 2, 2, 0, 1, 2};
        int[] second = {1, 1000 - 50 - 20, 1, 1, 1, 0, 1};
        for (int what = 0; what <= 6; what++) {
            Checks.due(12, "clientOf(0, " + what + ")", x.clientOf(0, what), first[what]);
            Checks.due(12, "clientOf(1, " + what + ")", x.clientOf(1, what), second[what]);
        }
        Checks.due(12, "clientOf(0, -1)", x.clientOf(0, -1), Checks.INVALID);
        Checks.due(12, "clientOf(0, 7)", x.clientOf(0, 7), Checks.INVALID);
        Checks.due(12, "clientOf(-1, 0)", x.clientOf(-1, 0), Checks.INVALID);
        Checks.due(12, "clientOf(2, 0)", x.clientOf(2, 0), Checks.INVALID);
        x.buyBack(0);
        Checks.due(12, "lent from it, its home gone", x.clientOf(0, 5), 0);
        Checks.due(12, "lent to it, its home gone", x.clientOf(1, 4), 1);
        Checks.due(12, "in the book, its home gone", x.clientOf(1, 3), 1);
        Checks.due(12, "chapters behind that", x.clientOf(0, 2), 1);
    }

    private static void chapterOf() {
        LentPhrases x = fullBooks();
        x.pass(2);
        int[] first = {0, 2, 100, 0, 2, 96};
        int[] second = {1, 2, 50, 0, 1, 48};
        for (int what = 0; what <= 5; what++) {
            Checks.due(13, "chapterOf(0, " + what + ")", x.chapterOf(0, what), first[what]);
            Checks.due(13, "chapterOf(1, " + what + ")", x.chapterOf(1, what), second[what]);
        }
        Checks.due(13, "chapterOf(0, -1)", x.chapterOf(0, -1), Checks.INVALID);
        Checks.due(13, "chapterOf(0, 6)", x.chapterOf(0, 6), Checks.INVALID);
        Checks.due(13, "chapterOf(-1, 0)", x.chapterOf(-1, 0), Checks.INVALID);
        Checks.due(13, "chapterOf(2, 0)", x.chapterOf(2, 0), Checks.INVALID);
        x.pass(47);
        Checks.due(13, "on the day 49", x.chapterOf(0, 5), 2);
        x.pass(1);
        Checks.due(13, "on the day 50", x.chapterOf(0, 5), 0);
        x.pass(1);
        Checks.due(13, "on the day 51", x.chapterOf(0, 5), 0);
        Checks.due(13, "as buyBack pays", x.buyBack(0), 0);
    }

    private static void phraseOf() {
        LentPhrases x = fullBooks();
        int none = Checks.NOT_FOUND;
        int[] placed = {3, 7, 8, 9, 0, 1, 0, none, none, none, 0};
        int[] free = {2, 9, none, none, none, none, none, none, none, none, 0};
        for (int what = 0; what <= 10; what++) {
            Checks.due(14, "phraseOf(2, " + what + ")", x.phraseOf(2, what), placed[what]);
            Checks.due(14, "phraseOf(3, " + what + ")", x.phraseOf(3, what), free[what]);
        }
        Checks.due(14, "a second word alone", x.phraseOf(1, 2), 8);
        Checks.due(14, "no third word", x.phraseOf(1, 3), none);
        Checks.due(14, "phraseOf(0, -1)", x.phraseOf(0, -1), Checks.INVALID);
        Checks.due(14, "phraseOf(0, 11)", x.phraseOf(0, 11), Checks.INVALID);
        Checks.due(14, "phraseOf(-1, 0)", x.phraseOf(-1, 0), Checks.INVALID);
        Checks.due(14, "phraseOf(4, 0)", x.phraseOf(4, 0), Checks.INVALID);
    }

    private static void phraseOfLent() {
        LentPhrases x = fullBooks();
        int none = Checks.NOT_FOUND;
        int[] lent = {0, 7, none, none, 1, 0, 1, 4, 0, 1, 1};
        int[] homeless = {0, 7, none, none, 0, 0, 1, 4, none, none, 1};
        int[] free = {0, 7, none, none, none, none, none, none, none, none, 1};
        for (int what = 0; what <= 10; what++) {
            Checks.due(14, "phraseOf(0, " + what + "), lent", x.phraseOf(0, what), lent[what]);
        }
        x.buyBack(0);
        for (int what = 0; what <= 10; what++) {
            Checks.due(14, "phraseOf(0, " + what + "), its home gone", x.phraseOf(0, what), homeless[what]);
        }
        x.pass(4);
        for (int what = 0; what <= 10; what++) {
            Checks.due(14, "phraseOf(0, " + what + "), free then", x.phraseOf(0, what), free[what]);
        }
    }

    private static void find() {
        LentPhrases x = fullBooks();
        Checks.due(15, "find(7, -1, -1)", x.find(7, -1, -1), 0);
        Checks.due(15, "find(7, 8, -1)", x.find(7, 8, -1), 1);
        Checks.due(15, "find(7, 8, 9)", x.find(7, 8, 9), 2);
        Checks.due(15, "find(9, -1, -1)", x.find(9, -1, -1), 3);
        Checks.due(15, "find(8, -1, -1)", x.find(8, -1, -1), Checks.NOT_FOUND);
        Checks.due(15, "find(8, 7, -1)", x.find(8, 7, -1), Checks.NOT_FOUND);
        Checks.due(15, "find(7, 9, -1)", x.find(7, 9, -1), Checks.NOT_FOUND);
        Checks.due(15, "find(0, 0, 0)", x.find(0, 0, 0), Checks.NOT_FOUND);
        int[][] wrong = {{-1, -1, -1}, {64, -1, -1}, {7, -2, -1}, {7, 64, -1}, {7, 8, -2}, {7, 8, 64}, {7, -1, 9},
            {-1, 8, 9}};
        for (int[] row : wrong) {
            Checks.due(15, "find(" + row[0] + ", " + row[1] + ", " + row[2] + ")",
                x.find(row[0], row[1], row[2]), Checks.INVALID);
        }
        Checks.due(15, "find in none", new LentPhrases().find(63, 63, 63), Checks.NOT_FOUND);
    }

    private static void on() {
        LentPhrases x = fullBooks();
        x.lift(1);
        x.place(3, 0, 0);
        x.place(1, 0, 0);
        Checks.due(16, "the lowest", x.on(0, 0, 0), 1);
        Checks.due(16, "the one behind", x.on(0, 0, 1), 3);
        Checks.due(16, "no third", x.on(0, 0, 2), Checks.NOT_FOUND);
        Checks.due(16, "no tenth", x.on(0, 0, 9), Checks.NOT_FOUND);
        Checks.due(16, "places left", x.on(0, 0, 10), 1);
        Checks.due(16, "a kept place", x.on(0, 1, 10), 1);
        Checks.due(16, "not the lent one", x.on(0, 1, 0), 2);
        Checks.due(16, "nobody on a kept place", x.on(0, 1, 1), Checks.NOT_FOUND);
        Checks.due(16, "the lent one", x.on(1, 0, 0), 0);
        Checks.due(16, "beside the lent one", x.on(1, 0, 10), 2);
        Checks.due(16, "an empty page", x.on(1, 1, 0), Checks.NOT_FOUND);
        Checks.due(16, "an empty page's places", x.on(1, 1, 10), 3);
        int[][] wrong = {{-1, 0, 0}, {2, 0, 0}, {0, -1, 0}, {0, 2, 0}, {0, 0, -1}, {0, 0, 11}, {2, 0, 10}};
        for (int[] row : wrong) {
            Checks.due(16, "on(" + row[0] + ", " + row[1] + ", " + row[2] + ")",
                x.on(row[0], row[1], row[2]), Checks.INVALID);
        }
        x.pass(4);
        Checks.due(16, "at home again", x.on(0, 1, 0), 0);
        Checks.due(16, "places as before", x.on(0, 1, 10), 1);
    }

    private static void tells() {
        LentPhrases x = new LentPhrases();
        x.client(1, 500);
        x.client(2, 500);
        x.chapter(0, 2, 0);
        x.chapter(0, 2, 0);
        x.chapter(1, 2, 0);
        for (int i = 0; i < 8; i++) {
            x.phrase(i % 4, i, -1, -1);
        }
        x.place(0, 0, 0);
        x.place(1, 0, 0);
        x.place(2, 0, 0);
        x.place(3, 1, 0);
        x.place(4, 1, 1);
        x.place(5, 2, 0);
        int[] expected = {0, 2, 0, 2, 1, 3, 1, 3, 1, 3, 1, 3, 2, 4, 2, 4};
        for (int voices = 0; voices <= 15; voices++) {
            Checks.due(17, "tells(0, " + voices + ")", x.tells(0, voices), expected[voices]);
        }
        Checks.due(17, "tells(1, 2)", x.tells(1, 2), 1);
        Checks.due(17, "tells(1, 13)", x.tells(1, 13), 0);
        Checks.due(17, "lend(3, 2, 1, 1)", x.lend(3, 2, 1, 1), 5);
        Checks.due(17, "a lent one is a tell", x.tells(1, 8), 1);
        Checks.due(17, "and is not one at home", x.tells(0, 8), 0);
        Checks.due(17, "tells(0, -1)", x.tells(0, -1), Checks.INVALID);
        Checks.due(17, "tells(0, 16)", x.tells(0, 16), Checks.INVALID);
        Checks.due(17, "tells(-1, 0)", x.tells(-1, 0), Checks.INVALID);
        Checks.due(17, "tells(2, 0)", x.tells(2, 0), Checks.INVALID);
    }

    private static void alike() {
        LentPhrases x = fullBooks();
        x.phrase(0, 7, 1, -1);
        x.phrase(0, 7, 2, -1);
        x.chapter(0, 1, 0);
        x.place(4, 2, 0);
        Checks.due(18, "alike(1)", x.alike(1), 2);
        Checks.due(18, "alike(4) in another chapter", x.alike(4), 2);
        Checks.due(18, "alike(0), lent", x.alike(0), 0);
        Checks.due(18, "alike(5), free", x.alike(5), Checks.NOT_POSSIBLE);
        Checks.due(18, "alike(-1)", x.alike(-1), Checks.INVALID);
        Checks.due(18, "alike(6)", x.alike(6), Checks.INVALID);
        x.place(5, 1, 1);
        Checks.due(18, "alike(0), lent, with another", x.alike(0), 1);
        Checks.due(18, "alike(5)", x.alike(5), 1);
        x.place(3, 0, 0);
        Checks.due(18, "alike(3), with another first word", x.alike(3), 0);
        x.pass(4);
        Checks.due(18, "alike(0), at home", x.alike(0), 3);
        Checks.due(18, "alike(1), with phrase 0 at home", x.alike(1), 3);
    }

    private static void count() {
        LentPhrases x = fullBooks();
        x.set(0, 8);
        x.set(1, 9);
        x.pass(1);
        x.keep();
        Checks.type(x, "d1");
        int[] expected = {2, 2, 4, 1, 1, 1, 150, 20, 4, 2, 1, 2};
        for (int what = 0; what <= 11; what++) {
            Checks.due(19, "count(" + what + ")", x.count(what), expected[what]);
        }
        Checks.due(19, "count(20)", x.count(20), 8);
        Checks.due(19, "count(21)", x.count(21), 9);
        int[] wrong = {-1, 12, 19, 22, Integer.MAX_VALUE, Integer.MIN_VALUE};
        for (int what : wrong) {
            Checks.due(19, "count(" + what + ")", x.count(what), Checks.INVALID);
        }
        x.phrase(0, 63, -1, -1);
        x.phrase(0, 63, 0, -1);
        x.phrase(0, 31, -1, -1);
        x.phrase(0, 32, -1, -1);
        x.phrase(0, 0, -1, -1);
        Checks.due(19, "unlike first words", x.count(11), 6);
        LentPhrases y = new LentPhrases();
        y.phrase(0, 5, -1, -1);
        Checks.due(19, "the first word of one", y.count(11), 1);
    }

    private static void queriesChangeNothing() {
        LentPhrases x = fullBooks();
        String before = Checks.all(x);
        int states = x.count(8);
        x.coming(99, 0);
        x.coming(99, 1);
        x.best(0);
        x.best(1);
        Checks.type(x, "d4;f1;");
        x.fault(0);
        x.keep();
        x.on(0, 0, 0);
        x.tells(0, 15);
        x.alike(0);
        x.find(7, -1, -1);
        Checks.holds("queries change nothing", before.equals(Checks.all(x)));
        Checks.due(19, "history behind queries", x.count(8), states);
    }
}
