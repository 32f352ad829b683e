import java.util.ArrayList;
import java.util.List;
import java.util.function.Supplier;
import java.util.function.ToIntFunction;

/** What the tests of boundary cases share: the sentence that a case is of, arguments out of range, refused calls. */
final class Edges {
    interface Call {
        int with(LentPhrases object, int value);
    }

    private static final int MOST_STATES = 4;

    private static int promise = 0;
    private static String sentence = "";

    private Edges() {
    }

    /** Promise 0 stands for what the document says ahead of the promises. */
    static void says(int ofPromise, String words) {
        promise = ofPromise;
        sentence = words;
    }

    static void due(String call, long got, long want) {
        Checks.due(promise, got == want ? call : call + " (\"" + sentence + "\")", got, want);
    }

    static void same(String what, String got, String want) {
        Checks.holds("promise " + promise + ": " + what + ": " + got + ", not " + want + " (\"" + sentence + "\")",
            got.equals(want));
    }

    /**
     * Of two objects that were made alike, one makes the refused call; then nothing may tell them apart, not even
     * the text when it is played, the states that undo() brings back, or the snapshot. Three pairs, as an object is
     * used for 512 calls at most.
     */
    static void refused(Supplier<LentPhrases> made, String call, ToIntFunction<LentPhrases> refusal, int want) {
        LentPhrases seen = made.get();
        due(call, refusal.applyAsInt(seen), want);
        same("everything behind " + call, everything(seen), everything(made.get()));
        LentPhrases undone = made.get();
        refusal.applyAsInt(undone);
        same("what undo() and restore() bring behind " + call, past(undone), past(made.get()));
        LentPhrases played = made.get();
        refusal.applyAsInt(played);
        same("what play() does behind " + call, future(played), future(made.get()));
    }

    /** Values next to a range, far from it, and such as a number of 8, 16 or 31 bits would take for one inside. */
    static void refusedOutside(Supplier<LentPhrases> made, String call, int least, int greatest, Call with) {
        for (int value : outside(least, greatest)) {
            refused(made, call.replace("?", String.valueOf(value)), x -> with.with(x, value),
                LentPhrases.INVALID_ARGUMENT);
        }
    }

    private static List<Integer> outside(int least, int greatest) {
        int[] values = {least - 1, greatest + 1, Integer.MIN_VALUE, Integer.MIN_VALUE + 1, Integer.MAX_VALUE - 1,
            Integer.MAX_VALUE, least - 256, least + 256, greatest + 256, least - 65536, least + 65536,
            greatest + 65536, least + Integer.MIN_VALUE, greatest + Integer.MIN_VALUE};
        List<Integer> found = new ArrayList<>();
        for (int value : values) {
            if ((value < least || value > greatest) && !found.contains(value)) {
                found.add(value);
            }
        }
        return found;
    }

    static String everything(LentPhrases x) {
        StringBuilder told = new StringBuilder(Checks.all(x));
        for (int what = 8; what <= 10; what++) {
            told.append(x.count(what)).append(' ');
        }
        for (int what = 0; what <= 2; what++) {
            told.append(x.fault(what)).append(' ');
        }
        told.append(x.coming(99, 0)).append(' ').append(x.coming(99, 1)).append(' ').append(x.best(0));
        return told.toString();
    }

    private static String past(LentPhrases x) {
        StringBuilder told = new StringBuilder();
        for (int i = 0; i <= MOST_STATES; i++) {
            told.append("undo ").append(x.undo()).append(": ").append(counts(x));
        }
        return told.append("restore ").append(x.restore()).append(": ").append(everything(x)).toString();
    }

    private static String future(LentPhrases x) {
        StringBuilder told = new StringBuilder();
        return told.append("play ").append(x.play()).append(": ").append(everything(x))
            .append(" clearText ").append(x.clearText()).toString();
    }

    private static String counts(LentPhrases x) {
        StringBuilder told = new StringBuilder();
        for (int what = 0; what <= 11; what++) {
            told.append(x.count(what)).append(' ');
        }
        return told.append(x.count(20)).append(' ').append(x.count(21)).append(' ').toString();
    }
}
