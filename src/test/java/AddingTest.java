/** Promises 1 to 4: a new object, client, chapter, phrase. */
public final class AddingTest {
    public static void main(String[] args) {
        newObject();
        client();
        chapter();
        chapterErrorsInOrder();
        phrase();
        phraseErrorsInOrder();
        Checks.finish("AddingTest");
    }

    private static void newObject() {
        LentPhrases x = new LentPhrases();
        for (int what = 0; what <= 11; what++) {
            Checks.due(1, "count(" + what + ")", x.count(what), 0);
        }
        Checks.due(1, "count(20)", x.count(20), 5);
        Checks.due(1, "count(21)", x.count(21), 2);
        Checks.due(1, "clientOf(0, 0)", x.clientOf(0, 0), Checks.INVALID);
        Checks.due(1, "chapterOf(0, 0)", x.chapterOf(0, 0), Checks.INVALID);
        Checks.due(1, "phraseOf(0, 0)", x.phraseOf(0, 0), Checks.INVALID);
        Checks.due(1, "undo()", x.undo(), Checks.NOT_POSSIBLE);
        Checks.due(1, "restore()", x.restore(), Checks.NOT_POSSIBLE);
        LentPhrases other = new LentPhrases();
        other.client(1, 1);
        Checks.due(1, "count(0) of another object", x.count(0), 0);
    }

    private static void client() {
        LentPhrases x = new LentPhrases();
        int[][] wrong = {{-1, 0}, {4, 0}, {0, -1}, {0, 10000}, {Integer.MIN_VALUE, 0}, {0, Integer.MAX_VALUE}};
        for (int[] row : wrong) {
            Checks.due(2, "client(" + row[0] + ", " + row[1] + ")", x.client(row[0], row[1]), Checks.INVALID);
        }
        Checks.due(2, "clients behind errors", x.count(0), 0);
        Checks.due(2, "history behind errors", x.count(8), 0);
        Checks.due(2, "client(0, 0)", x.client(0, 0), 0);
        Checks.due(2, "client(3, 9999)", x.client(3, 9999), 1);
        Checks.due(2, "client(3, 1)", x.client(3, 1), 2);
        Checks.due(2, "client(1, 2)", x.client(1, 2), 3);
        Checks.due(2, "client(2, 3)", x.client(2, 3), 4);
        Checks.due(2, "a sixth client", x.client(2, 3), Checks.LIMIT);
        Checks.due(2, "a sixth client, out of range", x.client(4, 3), Checks.INVALID);
        Checks.due(2, "clientOf(1, 0)", x.clientOf(1, 0), 3);
        Checks.due(2, "clientOf(1, 1)", x.clientOf(1, 1), 9999);
        Checks.due(2, "clientOf(4, 1)", x.clientOf(4, 1), 3);
        Checks.due(2, "count(0)", x.count(0), 5);
    }

    private static void chapter() {
        LentPhrases x = new LentPhrases();
        x.client(0, 9999);
        x.client(0, 40);
        int[][] wrong = {{-1, 1, 0}, {2, 1, 0}, {0, 0, 0}, {0, 21, 0}, {0, 1, -1}, {0, 1, 1000}};
        for (int[] row : wrong) {
            Checks.due(3, "chapter(" + row[0] + ", " + row[1] + ", " + row[2] + ")",
                x.chapter(row[0], row[1], row[2]), Checks.INVALID);
        }
        Checks.due(3, "chapter(1, 1, 41)", x.chapter(1, 1, 41), Checks.NOT_POSSIBLE);
        Checks.due(3, "chapter(1, 1, 40)", x.chapter(1, 1, 40), 0);
        Checks.due(3, "purse behind it", x.clientOf(1, 1), 0);
        Checks.due(3, "account behind it", x.count(6), 40);
        x.pass(3);
        Checks.due(3, "chapter(0, 20, 999)", x.chapter(0, 20, 999), 1);
        Checks.due(3, "purse behind it", x.clientOf(0, 1), 9000);
        Checks.due(3, "account behind it", x.count(6), 1039);
        Checks.due(3, "its client", x.chapterOf(1, 0), 0);
        Checks.due(3, "its pages", x.chapterOf(1, 1), 20);
        Checks.due(3, "its price", x.chapterOf(1, 2), 999);
        Checks.due(3, "its day", x.chapterOf(1, 3), 3);
        Checks.due(3, "the day of the other", x.chapterOf(0, 3), 0);
        Checks.due(3, "its phrases", x.chapterOf(1, 4), 0);
    }

    private static void chapterErrorsInOrder() {
        LentPhrases x = new LentPhrases();
        x.client(0, 5);
        for (int i = 0; i < 10; i++) {
            Checks.due(3, "chapter " + i, x.chapter(0, 1, 0), i);
        }
        Checks.due(3, "an eleventh", x.chapter(0, 1, 0), Checks.LIMIT);
        Checks.due(3, "an eleventh, too dear", x.chapter(0, 1, 6), Checks.NOT_POSSIBLE);
        Checks.due(3, "an eleventh, without pages", x.chapter(0, 0, 6), Checks.INVALID);
        x.buyBack(4);
        Checks.due(3, "a tenth again", x.chapter(0, 1, 5), 9);
        Checks.due(3, "purse behind it", x.clientOf(0, 1), 0);
    }

    private static void phrase() {
        LentPhrases x = new LentPhrases();
        int[][] wrong = {{-1, 0, -1, -1}, {4, 0, -1, -1}, {0, -1, -1, -1}, {0, 64, -1, -1}, {0, 0, -2, -1},
            {0, 0, 64, -1}, {0, 0, 0, -2}, {0, 0, 0, 64}, {0, 0, -1, 0}, {0, 0, -1, 63}};
        for (int[] row : wrong) {
            Checks.due(4, "phrase(" + row[0] + ", " + row[1] + ", " + row[2] + ", " + row[3] + ")",
                x.phrase(row[0], row[1], row[2], row[3]), Checks.INVALID);
        }
        Checks.due(4, "phrase(3, 63, 63, 63)", x.phrase(3, 63, 63, 63), 0);
        Checks.due(4, "phrase(0, 63, 63, -1)", x.phrase(0, 63, 63, -1), 1);
        Checks.due(4, "phrase(0, 63, -1, -1)", x.phrase(0, 63, -1, -1), 2);
        Checks.due(4, "phrase(1, 63, 63, -1)", x.phrase(1, 63, 63, -1), Checks.NOT_POSSIBLE);
        Checks.due(4, "phrase(0, 0, 0, 0)", x.phrase(0, 0, 0, 0), 3);
        Checks.due(4, "phrase(0, 0, 0, 0) again", x.phrase(0, 0, 0, 0), Checks.NOT_POSSIBLE);
        Checks.due(4, "phrase(0, 1, 2, 3)", x.phrase(0, 1, 2, 3), 4);
        Checks.due(4, "phrase(0, 1, 3, 2)", x.phrase(0, 1, 3, 2), 5);
        Checks.due(4, "its voice", x.phraseOf(0, 0), 3);
        Checks.due(4, "free ones", x.count(4), 6);
        Checks.due(4, "its chapter", x.phraseOf(0, 4), Checks.NOT_FOUND);
    }

    private static void phraseErrorsInOrder() {
        LentPhrases x = new LentPhrases();
        for (int i = 0; i < 24; i++) {
            Checks.due(4, "phrase " + i, x.phrase(0, i, -1, -1), i);
        }
        Checks.due(4, "a 25th", x.phrase(0, 24, -1, -1), Checks.LIMIT);
        Checks.due(4, "a 25th of known words", x.phrase(0, 23, -1, -1), Checks.NOT_POSSIBLE);
        Checks.due(4, "a 25th, out of range", x.phrase(4, 23, -1, -1), Checks.INVALID);
        Checks.due(4, "count(2)", x.count(2), 24);
    }
}
