/** Promises 22 to 24: keep, restore, undo. */
public final class SnapshotUndoTest {
    public static void main(String[] args) {
        keepAndRestore();
        restoreIsAChange();
        keepInPlaceOfTheOld();
        undoOfEachChange();
        undoOfFour();
        errorsAreNoChanges();
        undoLeavesTextAndSnapshot();
        nothingIsLeftOfWhatWasUndone();
        Checks.finish("SnapshotUndoTest");
    }

    private static void keepAndRestore() {
        LentPhrases x = Checks.oneLoan();
        Checks.due(23, "restore() of none", x.restore(), Checks.NOT_POSSIBLE);
        Checks.due(22, "keep()", x.keep(), 2);
        Checks.due(22, "count(10)", x.count(10), 1);
        String kept = Checks.all(x);
        x.phrase(3, 1, 2, 3);
        x.client(2, 7);
        x.set(0, 6);
        x.set(1, 6);
        x.sell(0, 1, 7);
        x.buyBack(1);
        x.pass(9);
        x.lift(0);
        Checks.due(22, "phrases before", x.count(2), 3);
        Checks.due(23, "restore()", x.restore(), 2);
        Checks.holds("restore() restores all", kept.equals(Checks.all(x)));
        x.pass(9);
        Checks.due(23, "restore() again", x.restore(), 2);
        Checks.holds("the snapshot stays", kept.equals(Checks.all(x)));
        Checks.due(22, "keep() of a new object", new LentPhrases().keep(), 0);
    }

    private static void restoreIsAChange() {
        LentPhrases x = new LentPhrases();
        x.keep();
        Checks.due(22, "keep() is no change", x.count(8), 0);
        x.client(0, 0);
        String before = Checks.all(x);
        x.restore();
        Checks.due(23, "clients", x.count(0), 0);
        Checks.due(23, "history", x.count(8), 2);
        Checks.due(23, "the snapshot stays", x.count(10), 1);
        Checks.due(24, "undo() of restore()", x.undo(), 1);
        Checks.holds("undo() undoes restore()", before.equals(Checks.all(x)));
    }

    private static void keepInPlaceOfTheOld() {
        LentPhrases x = new LentPhrases();
        x.phrase(0, 1, -1, -1);
        x.keep();
        x.phrase(0, 2, -1, -1);
        Checks.due(22, "keep() again", x.keep(), 2);
        x.phrase(0, 3, -1, -1);
        Checks.due(23, "restore()", x.restore(), 2);
        Checks.due(23, "find(2, -1, -1)", x.find(2, -1, -1), 1);
    }

    private static void undoOfEachChange() {
        for (int change = 0; change < 12; change++) {
            LentPhrases x = Checks.oneLoan();
            x.phrase(0, 1, -1, -1);
            x.place(1, 1, 1);
            x.keep();
            x.set(0, 17);
            Checks.type(x, "d5;p0,40;");
            String before = Checks.all(x);
            int answer = change(x, change);
            Checks.holds("change " + change + " is possible", answer >= 0);
            Checks.due(24, "history behind change " + change, x.count(8), 4);
            Checks.due(24, "undo() of change " + change, x.undo(), 3);
            Checks.holds("undo() undoes change " + change, before.equals(Checks.all(x)));
        }
    }

    private static int change(LentPhrases x, int change) {
        switch (change) {
            case 0: return x.client(3, 3);
            case 1: return x.chapter(1, 3, 3);
            case 2: return x.phrase(3, 3, 3, 3);
            case 3: return x.place(2, 1, 1);
            case 4: return x.lift(1);
            case 5: return x.lend(1, 0, 0, 3);
            case 6: return x.buyBack(0);
            case 7: return x.sell(0, 1, 3);
            case 8: return x.pass(4);
            case 9: return x.set(0, 17);
            case 10: return x.restore();
            default: return x.play();
        }
    }

    private static void undoOfFour() {
        LentPhrases x = new LentPhrases();
        for (int i = 0; i < 9; i++) {
            x.phrase(0, i, -1, -1);
            Checks.due(24, "history", x.count(8), Math.min(4, i + 1));
        }
        for (int i = 0; i < 4; i++) {
            Checks.due(24, "undo()", x.undo(), 3 - i);
            Checks.due(24, "phrases behind it", x.count(2), 8 - i);
        }
        Checks.due(24, "undo() of none", x.undo(), Checks.NOT_POSSIBLE);
        Checks.due(24, "phrases then", x.count(2), 5);
        x.phrase(0, 50, -1, -1);
        Checks.due(24, "undo() of a new one", x.undo(), 0);
        Checks.due(24, "phrases then", x.count(2), 5);
    }

    private static void errorsAreNoChanges() {
        LentPhrases x = Checks.oneLoan();
        x.undo();
        int states = x.count(8);
        String before = Checks.all(x);
        x.client(4, 0);
        x.chapter(0, 1, 999);
        x.chapter(5, 1, 1);
        x.phrase(0, 7, -1, -1);
        x.place(0, 0, 0);
        x.place(1, 9, 0);
        x.lift(1);
        x.lend(0, 0, 0, 1);
        x.buyBack(2);
        x.sell(0, 0, 1);
        x.pass(100);
        x.set(2, 0);
        x.restore();
        Checks.type(x, "d1;x");
        x.play();
        Checks.due(24, "history behind errors", x.count(8), states);
        Checks.holds("errors change nothing", before.equals(Checks.all(x)));
    }

    private static void undoLeavesTextAndSnapshot() {
        LentPhrases x = new LentPhrases();
        x.client(0, 0);
        Checks.type(x, "d1;");
        x.keep();
        x.client(1, 1);
        x.clearText();
        Checks.type(x, "d22;");
        x.undo();
        Checks.due(24, "the text stays", x.count(9), 4);
        Checks.due(24, "the snapshot stays", x.count(10), 1);
        x.undo();
        Checks.due(24, "no client", x.count(0), 0);
        x.restore();
        Checks.due(23, "the kept client", x.count(0), 1);
        Checks.due(23, "the text stays", x.count(9), 4);
    }

    private static void nothingIsLeftOfWhatWasUndone() {
        LentPhrases x = Checks.twoBooks();
        x.place(0, 0, 0);
        x.keep();
        String kept = Checks.all(x);
        x.phrase(1, 7, 9, -1);
        x.place(2, 0, 0);
        x.lend(2, 1, 0, 3);
        x.pass(3);
        x.chapter(0, 9, 9);
        x.client(0, 99);
        Checks.due(24, "alike(0) before", x.alike(0), 1);
        Checks.due(23, "restore()", x.restore(), 2);
        Checks.due(23, "alike(0) then", x.alike(0), 0);
        Checks.due(23, "tells(0, 15) then", x.tells(0, 15), 0);
        Checks.due(23, "on(0, 0, 1) then", x.on(0, 0, 1), Checks.NOT_FOUND);
        Checks.due(23, "find(7, 9, -1) then", x.find(7, 9, -1), Checks.NOT_FOUND);
        Checks.holds("all is as it was", kept.equals(Checks.all(x)));
        x.phrase(3, 7, 9, 9);
        Checks.due(23, "a new one is free", x.phraseOf(2, 4), Checks.NOT_FOUND);
        Checks.due(23, "a new one was not lent so far", x.phraseOf(2, 10), 0);
        Checks.due(23, "a new one is not lent", x.phraseOf(2, 7), Checks.NOT_FOUND);
        Checks.due(23, "a new one has no home", x.phraseOf(2, 8), Checks.NOT_FOUND);
    }
}
