/** Counts and prints the answers that are not the ones that are due. */
final class Checks {
    static final int INVALID = LentPhrases.INVALID_ARGUMENT;
    static final int NOT_POSSIBLE = LentPhrases.NOT_POSSIBLE;
    static final int LIMIT = LentPhrases.LIMIT_REACHED;
    static final int NOT_FOUND = LentPhrases.NOT_FOUND;

    private static final int MOST_PRINTED = 40;

    private static int done = 0;
    private static int wrong = 0;

    private Checks() {
    }

    static void due(int promise, String call, long got, long want) {
        done++;
        if (got != want) {
            wrong++;
            if (wrong <= MOST_PRINTED) {
                System.out.println("promise " + promise + ": " + call + " answered " + got + ", due is " + want);
            }
        }
    }

    static void holds(String what, boolean held) {
        done++;
        if (!held) {
            wrong++;
            System.out.println("does not hold: " + what);
        }
    }

    static int wrongSoFar() {
        return wrong;
    }

    static void type(LentPhrases object, String text) {
        for (int i = 0; i < text.length(); i++) {
            object.type(text.charAt(i));
        }
    }

    static void retype(LentPhrases object, String text) {
        object.clearText();
        type(object, text);
    }

    /** Two clients of the voices 0 and 1, a chapter of two pages each, and two free phrases of the voices 0 and 1. */
    static LentPhrases twoBooks() {
        LentPhrases x = new LentPhrases();
        x.client(0, 1000);
        x.client(1, 1000);
        x.chapter(0, 2, 100);
        x.chapter(1, 2, 50);
        x.phrase(0, 7, -1, -1);
        x.phrase(1, 7, 8, -1);
        return x;
    }

    /** The same with phrase 0 lent from page 1 of chapter 0 to page 0 of chapter 1 until the day 4. */
    static LentPhrases oneLoan() {
        LentPhrases x = twoBooks();
        x.place(0, 0, 1);
        x.lend(0, 1, 0, 4);
        return x;
    }

    /** All that the queries tell, so that two states can be compared. */
    static String all(LentPhrases x) {
        StringBuilder told = new StringBuilder();
        for (int what = 0; what <= 21; what++) {
            if (what != 8 && what != 9 && what != 10) {
                told.append(x.count(what)).append(' ');
            }
        }
        for (int client = 0; client < x.count(0); client++) {
            for (int what = 0; what <= 6; what++) {
                told.append(x.clientOf(client, what)).append(' ');
            }
        }
        for (int chapter = 0; chapter < x.count(1); chapter++) {
            for (int what = 0; what <= 5; what++) {
                told.append(x.chapterOf(chapter, what)).append(' ');
            }
        }
        for (int phrase = 0; phrase < x.count(2); phrase++) {
            for (int what = 0; what <= 10; what++) {
                told.append(x.phraseOf(phrase, what)).append(' ');
            }
        }
        return told.toString();
    }

    static void finish(String test) {
        System.out.println(test + ": " + done + " checks, " + wrong + " wrong");
        if (wrong != 0 || done == 0) {
            System.exit(1);
        }
    }
}
