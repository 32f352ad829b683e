/** Promises 5 to 7: place, lift, lend. */
public final class LoansTest {
    public static void main(String[] args) {
        place();
        placeOnKeptPlaces();
        lift();
        lend();
        lendErrors();
        lendErrorsInOrder();
        lendWithoutFee();
        Checks.finish("LoansTest");
    }

    private static void place() {
        LentPhrases x = Checks.twoBooks();
        x.phrase(2, 1, -1, -1);
        x.phrase(2, 2, -1, -1);
        int[][] wrong = {{-1, 0, 0}, {4, 0, 0}, {0, -1, 0}, {0, 2, 0}, {0, 0, -1}, {0, 0, 2}};
        for (int[] row : wrong) {
            Checks.due(5, "place(" + row[0] + ", " + row[1] + ", " + row[2] + ")",
                x.place(row[0], row[1], row[2]), Checks.INVALID);
        }
        Checks.due(5, "place(0, 0, 1)", x.place(0, 0, 1), 2);
        Checks.due(5, "place(1, 0, 1)", x.place(1, 0, 1), 1);
        Checks.due(5, "place(1, 0, 0), not free", x.place(1, 0, 0), Checks.NOT_POSSIBLE);
        Checks.due(5, "place(2, 0, 1)", x.place(2, 0, 1), 0);
        Checks.due(5, "place(3, 0, 1), no place", x.place(3, 0, 1), Checks.LIMIT);
        Checks.due(5, "place(2, 0, 1), not free and no place", x.place(2, 0, 1), Checks.NOT_POSSIBLE);
        Checks.due(5, "place(3, 0, 0)", x.place(3, 0, 0), 2);
        Checks.due(5, "its chapter", x.phraseOf(3, 4), 0);
        Checks.due(5, "its page", x.phraseOf(3, 5), 0);
    }

    private static void placeOnKeptPlaces() {
        LentPhrases x = Checks.oneLoan();
        x.phrase(2, 1, -1, -1);
        x.phrase(2, 2, -1, -1);
        Checks.due(5, "place(1, 0, 1) beside a kept place", x.place(1, 0, 1), 1);
        Checks.due(5, "place(2, 0, 1) beside a kept place", x.place(2, 0, 1), 0);
        Checks.due(5, "place(3, 0, 1) on a kept place", x.place(3, 0, 1), Checks.LIMIT);
        Checks.due(5, "place(0, 0, 0), lent", x.place(0, 0, 0), Checks.NOT_POSSIBLE);
        Checks.due(5, "place(3, 1, 0) beside a lent one", x.place(3, 1, 0), 1);
    }

    private static void lift() {
        LentPhrases x = Checks.twoBooks();
        Checks.due(6, "lift(-1)", x.lift(-1), Checks.INVALID);
        Checks.due(6, "lift(2)", x.lift(2), Checks.INVALID);
        Checks.due(6, "lift(0), free", x.lift(0), Checks.NOT_POSSIBLE);
        x.place(0, 1, 1);
        Checks.due(6, "lift(0)", x.lift(0), 1);
        Checks.due(6, "places left behind it", x.on(1, 1, 10), 3);
        Checks.due(6, "free ones behind it", x.count(4), 2);
        Checks.due(6, "lift(0) again", x.lift(0), Checks.NOT_POSSIBLE);
        x.place(0, 0, 0);
        x.lend(0, 1, 0, 1);
        Checks.due(6, "lift(0), lent", x.lift(0), Checks.NOT_POSSIBLE);
        x.pass(1);
        Checks.due(6, "lift(0), at home again", x.lift(0), 0);
    }

    private static void lend() {
        LentPhrases x = Checks.twoBooks();
        x.place(0, 0, 1);
        x.pass(3);
        Checks.due(7, "lend(0, 1, 0, 20)", x.lend(0, 1, 0, 20), 100);
        Checks.due(7, "purse of the one that pays", x.clientOf(1, 1), 850);
        Checks.due(7, "purse of the one that is paid", x.clientOf(0, 1), 1000);
        Checks.due(7, "account of the writer", x.count(6), 150);
        Checks.due(7, "fees so far", x.count(7), 100);
        Checks.due(7, "its chapter", x.phraseOf(0, 4), 1);
        Checks.due(7, "its page", x.phraseOf(0, 5), 0);
        Checks.due(7, "its day", x.phraseOf(0, 7), 23);
        Checks.due(7, "its home", x.phraseOf(0, 8), 0);
        Checks.due(7, "its home's page", x.phraseOf(0, 9), 1);
        Checks.due(7, "how often it was lent", x.phraseOf(0, 10), 1);
        Checks.due(7, "places left at home", x.on(0, 1, 10), 2);
        Checks.due(7, "places left there", x.on(1, 0, 10), 2);
        Checks.due(7, "lent ones", x.count(5), 1);
        x.set(0, 99);
        x.place(1, 1, 1);
        Checks.due(7, "lend(1, 0, 0, 1)", x.lend(1, 0, 0, 1), 99);
        Checks.due(7, "fees so far", x.count(7), 199);
    }

    private static void lendErrors() {
        LentPhrases x = Checks.twoBooks();
        x.chapter(0, 1, 0);
        x.place(0, 0, 1);
        int[][] wrong = {{-1, 1, 0, 1}, {2, 1, 0, 1}, {0, -1, 0, 1}, {0, 3, 0, 1}, {0, 1, -1, 1}, {0, 1, 2, 1},
            {0, 1, 0, 0}, {0, 1, 0, 21}, {0, 1, 0, Integer.MAX_VALUE}, {0, 1, 0, Integer.MIN_VALUE}};
        for (int[] row : wrong) {
            Checks.due(7, "lend(" + row[0] + ", " + row[1] + ", " + row[2] + ", " + row[3] + ")",
                x.lend(row[0], row[1], row[2], row[3]), Checks.INVALID);
        }
        Checks.due(7, "a free one", x.lend(1, 1, 0, 1), Checks.NOT_POSSIBLE);
        Checks.due(7, "to its chapter", x.lend(0, 0, 0, 1), Checks.NOT_POSSIBLE);
        Checks.due(7, "to another chapter of the client", x.lend(0, 2, 0, 1), Checks.NOT_POSSIBLE);
        Checks.due(7, "lend(0, 1, 0, 1)", x.lend(0, 1, 0, 1), 5);
        Checks.due(7, "a lent one", x.lend(0, 0, 0, 1), Checks.NOT_POSSIBLE);
        Checks.due(7, "how often it was lent", x.phraseOf(0, 10), 1);
        Checks.due(7, "fees so far", x.count(7), 5);
    }

    private static void lendErrorsInOrder() {
        LentPhrases x = new LentPhrases();
        x.client(0, 0);
        x.client(0, 9);
        x.chapter(0, 2, 0);
        x.chapter(1, 1, 0);
        for (int i = 0; i < 4; i++) {
            x.phrase(0, i, -1, -1);
        }
        x.place(0, 0, 0);
        x.place(1, 1, 0);
        x.place(2, 1, 0);
        Checks.due(7, "dearer than the purse", x.lend(0, 1, 0, 2), Checks.NOT_POSSIBLE);
        x.place(3, 1, 0);
        Checks.due(7, "no place left", x.lend(0, 1, 0, 1), Checks.LIMIT);
        Checks.due(7, "no place left, and too dear", x.lend(0, 1, 0, 2), Checks.NOT_POSSIBLE);
        Checks.due(7, "no place left, and too long", x.lend(0, 1, 0, 21), Checks.INVALID);
        x.lift(3);
        x.set(0, 9);
        Checks.due(7, "the whole purse", x.lend(0, 1, 0, 1), 9);
        Checks.due(7, "the purse then", x.clientOf(1, 1), 0);
        Checks.due(7, "no place left on the page", x.place(3, 1, 0), Checks.LIMIT);
    }

    private static void lendWithoutFee() {
        LentPhrases x = new LentPhrases();
        x.client(0, 0);
        x.client(0, 0);
        x.chapter(0, 1, 0);
        x.chapter(1, 1, 0);
        x.phrase(0, 1, -1, -1);
        x.place(0, 0, 0);
        x.set(0, 0);
        Checks.due(7, "for nothing", x.lend(0, 1, 0, 20), 0);
        Checks.due(7, "it is lent", x.count(5), 1);
    }
}
