/** Boundary cases of promises 22 to 24: keep, restore, undo. */
public final class SnapshotUndoEdgesTest {
    private static final int NOT_POSSIBLE = LentPhrases.NOT_POSSIBLE;
    private static final int NOT_FOUND = LentPhrases.NOT_FOUND;

    public static void main(String[] args) {
        keepOfNothing();
        keepInPlaceOfAnother();
        keepReturns();
        keepIsNoChange();
        restoreOfNothing();
        restoreOfAll();
        restoreStays();
        restoreReturns();
        restoreLeavesTheText();
        restoreWithAFullHistory();
        undoOfOne();
        undoOfFour();
        undoReturns();
        undoOfEmptiness();
        undoLeavesTextAndSnapshot();
        undoOfLoans();
        addedBehindUndo();
        Checks.finish("SnapshotUndoEdgesTest");
    }

    private static void keepOfNothing() {
        Edges.says(22, "Takes a snapshot of the state, in place of the one that was.");
        LentPhrases x = new LentPhrases();
        Edges.due("keep()", x.keep(), 0);
        Edges.due("there is one", x.count(10), 1);
        x.client(0, 9);
        x.pass(1);
        Edges.due("restore()", x.restore(), 0);
        Edges.due("no clients", x.count(0), 0);
        Edges.due("the day", x.count(3), 0);
    }

    private static void keepInPlaceOfAnother() {
        Edges.says(22, "Takes a snapshot of the state, in place of the one that was.");
        LentPhrases x = Books.allPhrases();
        Edges.due("keep() of all", x.keep(), 24);
        for (int i = 0; i < 4; i++) {
            x.undo();
        }
        Edges.due("keep() of three less", x.keep(), 21);
        x.phrase(0, 50, -1, -1);
        Edges.due("restore() of three less", x.restore(), 21);
        Edges.due("phrases", x.count(2), 21);
    }

    private static void keepReturns() {
        Edges.says(22, "Returns how many phrases there are.");
        Edges.due("none", new LentPhrases().keep(), 0);
        Edges.due("all", Books.allPhrases().keep(), 24);
        Edges.due("lent ones too", Books.homeless().keep(), 2);
    }

    private static void keepIsNoChange() {
        Edges.says(0, "The changes are the calls of client, chapter, phrase, place, lift, lend, buyBack, sell, pass, "
            + "set, restore and play that return no error.");
        LentPhrases x = Books.two();
        String before = Edges.everything(x);
        x.keep();
        Edges.same("keep()", Edges.everything(x), before);
        LentPhrases fresh = new LentPhrases();
        fresh.keep();
        Edges.due("undo() of keep()", fresh.undo(), NOT_POSSIBLE);
        Edges.due("the snapshot is there", fresh.count(10), 1);
    }

    private static void restoreOfNothing() {
        Edges.says(23, "Returns how many phrases there are then; NOT_POSSIBLE if there is none.");
        Edges.refused(Books::fresh, "restore() of a new object", x -> x.restore(), NOT_POSSIBLE);
        Edges.refused(Checks::oneLoan, "restore() without a snapshot", x -> x.restore(), NOT_POSSIBLE);
    }

    private static void restoreOfAll() {
        Edges.says(23, "Restores the state of the snapshot, which stays.");
        LentPhrases x = Books.tenChapters();
        x.phrase(0, 1, -1, -1);
        x.place(0, 9, 9);
        x.lend(0, 0, 0, 3);
        x.keep();
        String kept = Checks.all(x);
        x.buyBack(9);
        x.buyBack(0);
        x.set(0, 99);
        x.set(1, 99);
        x.pass(99);
        x.client(2, 2);
        x.phrase(0, 2, -1, -1);
        Edges.due("restore()", x.restore(), 1);
        Edges.same("all", Checks.all(x), kept);
        Edges.due("its home", x.phraseOf(0, 8), 9);
        Edges.due("pass(3) to its day", x.pass(3), 1);
        Edges.due("its page", x.phraseOf(0, 5), 9);
    }

    private static void restoreStays() {
        Edges.says(23, "Restores the state of the snapshot, which stays.");
        LentPhrases x = Books.two();
        for (int i = 0; i < 3; i++) {
            x.pass(99);
            Edges.due("restore() " + i, x.restore(), 2);
            Edges.due("the day", x.count(3), 0);
            Edges.due("it is there", x.count(10), 1);
        }
        x.keep();
        Edges.due("restore() of what is", x.restore(), 2);
        Edges.due("a change also then", x.undo(), 3);
    }

    private static void restoreReturns() {
        Edges.says(23, "Returns how many phrases there are then; NOT_POSSIBLE if there is none.");
        LentPhrases none = new LentPhrases();
        none.keep();
        none.phrase(0, 1, -1, -1);
        Edges.due("none then", none.restore(), 0);
        LentPhrases all = Books.allPhrases();
        all.keep();
        for (int i = 0; i < 4; i++) {
            all.undo();
        }
        Edges.due("all then", all.restore(), 24);
    }

    private static void restoreLeavesTheText() {
        Edges.says(0, "A history of at most 4 states is kept: each change records everything before it but the text "
            + "and the snapshot, and if there are 5 states then, the oldest one is dropped.");
        LentPhrases x = Books.fullText();
        x.restore();
        Edges.due("a full text", x.count(9), 60);
        Edges.due("it can be played", x.play(), 20);
        x.clearText();
        x.restore();
        Edges.due("an empty text", x.count(9), 0);
        x.undo();
        Edges.due("an empty text", x.count(9), 0);
        Edges.due("the day behind it", x.count(3), 20);
    }

    private static void restoreWithAFullHistory() {
        Edges.says(23, "Restores the state of the snapshot, which stays.");
        LentPhrases x = new LentPhrases();
        x.keep();
        for (int i = 0; i < 5; i++) {
            x.pass(1);
        }
        x.restore();
        Edges.due("states", x.count(8), 4);
        int[] days = {5, 4, 3, 2};
        for (int i = 0; i < 4; i++) {
            Edges.due("undo()", x.undo(), 3 - i);
            Edges.due("the day", x.count(3), days[i]);
        }
        Edges.due("undo() of none", x.undo(), NOT_POSSIBLE);
    }

    private static void undoOfOne() {
        Edges.says(24, "Restores the latest state of the history, which is removed from it.");
        LentPhrases x = new LentPhrases();
        x.client(3, 3);
        Edges.due("states", x.count(8), 1);
        Edges.due("undo()", x.undo(), 0);
        Edges.due("states", x.count(8), 0);
        Edges.due("clients", x.count(0), 0);
        Edges.due("undo() is no change", x.undo(), NOT_POSSIBLE);
    }

    private static void undoOfFour() {
        Edges.says(24, "Restores the latest state of the history, which is removed from it.");
        for (int changes = 0; changes <= 6; changes++) {
            LentPhrases x = new LentPhrases();
            for (int i = 0; i < changes; i++) {
                x.pass(1);
            }
            int states = Math.min(changes, 4);
            Edges.due("states behind " + changes, x.count(8), states);
            for (int i = 1; i <= states; i++) {
                Edges.due("undo() " + i + " of " + changes, x.undo(), states - i);
                Edges.due("the day", x.count(3), changes - i);
            }
            Edges.due("undo() of none behind " + changes, x.undo(), NOT_POSSIBLE);
            Edges.due("the day", x.count(3), changes - states);
        }
    }

    private static void undoReturns() {
        Edges.says(24, "Returns the number of states that are left in the history; NOT_POSSIBLE if it is empty.");
        Edges.refused(Books::fresh, "undo() of a new object", x -> x.undo(), NOT_POSSIBLE);
        Edges.refused(SnapshotUndoEdgesTest::allUndone, "undo() when all is undone", x -> x.undo(), NOT_POSSIBLE);
        LentPhrases x = allUndone();
        x.set(0, 1);
        Edges.due("of a new change", x.undo(), 0);
    }

    private static LentPhrases allUndone() {
        LentPhrases x = Books.loan();
        for (int i = 0; i < 4; i++) {
            x.undo();
        }
        return x;
    }

    private static void undoOfEmptiness() {
        Edges.says(24, "Restores the latest state of the history, which is removed from it.");
        LentPhrases x = new LentPhrases();
        Edges.due("play() of nothing", x.play(), 0);
        x.client(0, 0);
        x.client(9, 9);
        Edges.due("states: an error is none", x.count(8), 2);
        Edges.due("undo()", x.undo(), 1);
        Edges.due("undo() of play() of nothing", x.undo(), 0);
        x.keep();
        Edges.due("restore() of nothing", x.restore(), 0);
        Edges.due("undo() of it", x.undo(), 0);
    }

    private static void undoLeavesTextAndSnapshot() {
        Edges.says(0, "A history of at most 4 states is kept: each change records everything before it but the text "
            + "and the snapshot, and if there are 5 states then, the oldest one is dropped.");
        LentPhrases x = new LentPhrases();
        x.pass(7);
        x.pass(1);
        x.keep();
        Checks.type(x, "d9;");
        x.undo();
        x.undo();
        Edges.due("a snapshot newer than the state", x.count(10), 1);
        Edges.due("a text newer than the state", x.count(9), 3);
        Edges.due("play()", x.play(), 1);
        Edges.due("the day", x.count(3), 9);
        x.restore();
        Edges.due("the day of the snapshot", x.count(3), 8);
        LentPhrases full = Books.fullText();
        full.undo();
        Edges.due("a full text", full.count(9), 60);
        full.clearText();
        full.undo();
        Edges.due("an empty text", full.count(9), 0);
    }

    private static void undoOfLoans() {
        Edges.says(24, "Restores the latest state of the history, which is removed from it.");
        LentPhrases x = Checks.oneLoan();
        x.undo();
        Edges.due("not lent", x.phraseOf(0, 7), NOT_FOUND);
        Edges.due("not lent so far", x.phraseOf(0, 10), 0);
        Edges.due("fees so far", x.count(7), 0);
        Edges.due("the purse", x.clientOf(1, 1), 950);
        LentPhrases gone = Checks.oneLoan();
        String before = Checks.all(gone);
        gone.buyBack(0);
        gone.undo();
        Edges.same("its home is there", Checks.all(gone), before);
    }

    private static void addedBehindUndo() {
        Edges.says(4, "Adds a phrase, which is free.");
        LentPhrases x = Checks.twoBooks();
        x.undo();
        x.phrase(1, 60, 61, 62);
        x.place(1, 0, 0);
        x.lend(1, 1, 0, 9);
        for (int i = 0; i < 3; i++) {
            x.undo();
        }
        Edges.due("phrase(2, 5, -1, -1)", x.phrase(2, 5, -1, -1), 1);
        int[] added = {2, 5, NOT_FOUND, NOT_FOUND, NOT_FOUND, NOT_FOUND, NOT_FOUND, NOT_FOUND, NOT_FOUND, NOT_FOUND, 0};
        for (int what = 0; what <= 10; what++) {
            Edges.due("phraseOf(1, " + what + ")", x.phraseOf(1, what), added[what]);
        }
        LentPhrases sold = Books.loan();
        sold.pass(9);
        sold.chapter(1, 20, 9);
        sold.client(3, 9);
        sold.undo();
        sold.undo();
        Edges.due("client(2, 2)", sold.client(2, 2), 2);
        Edges.due("its voice", sold.clientOf(2, 0), 2);
        Edges.due("chapter(2, 1, 1)", sold.chapter(2, 1, 1), 2);
        int[] chapter = {2, 1, 1, 9, 0, 1};
        for (int what = 0; what <= 5; what++) {
            Edges.due("chapterOf(2, " + what + ")", sold.chapterOf(2, what), chapter[what]);
        }
    }
}
