/** Promises 25 to 28: type, clearText, fault, play. */
public final class TextsTest {
    public static void main(String[] args) {
        type();
        clearText();
        faultOfForm();
        wellFormed();
        faultOfOrders();
        faultBehindOrders();
        faultArguments();
        play();
        playOfEachOrder();
        playWithFault();
        playOfNone();
        Checks.finish("TextsTest");
    }

    private static void type() {
        LentPhrases x = new LentPhrases();
        Checks.due(25, "type(31)", x.type(31), Checks.INVALID);
        Checks.due(25, "type(127)", x.type(127), Checks.INVALID);
        Checks.due(25, "type(65536 + 100)", x.type(65536 + 100), Checks.INVALID);
        Checks.due(25, "type(-1)", x.type(-1), Checks.INVALID);
        Checks.due(25, "type(32)", x.type(32), 1);
        Checks.due(25, "type(126)", x.type(126), 2);
        for (int i = 3; i <= 60; i++) {
            Checks.due(25, "type(48)", x.type(48), i);
        }
        Checks.due(25, "type(48), the 61st", x.type(48), Checks.LIMIT);
        Checks.due(25, "type(31), the 61st", x.type(31), Checks.INVALID);
        Checks.due(25, "the length", x.count(9), 60);
        Checks.due(25, "typing is no change", x.count(8), 0);
    }

    private static void clearText() {
        LentPhrases x = new LentPhrases();
        Checks.due(26, "clearText() of none", x.clearText(), 0);
        Checks.type(x, "d1;p");
        Checks.due(26, "clearText()", x.clearText(), 4);
        Checks.due(26, "the length", x.count(9), 0);
        Checks.due(26, "clearText() again", x.clearText(), 0);
        Checks.due(26, "no fault", x.fault(0), Checks.NOT_FOUND);
        Checks.type(x, "d");
        Checks.due(26, "nothing of the old text", x.fault(1), 1);
        Checks.due(26, "clearing is no change", x.count(8), 0);
        Checks.retype(x, "d1;d2;");
        Checks.retype(x, "d1");
        Checks.due(26, "no sign of the old text", x.fault(1), 1);
    }

    private static void faultOfForm() {
        String[] malformed = {
            "p0;", "p0,1,2,3,4;", "p;", "o0,0;", "o0,0,0,0;", "o0;", "l0,1,0;", "l0,1,0,1,1;", "f;", "f0,0;",
            "d;", "d1,1;", "d1", "d", ";", "d1,;", "d,1;", "d;1", "d100;", "d001;", "p0,100;", "p0,1,2,100;",
            " d1;", "d 1;", "d1 ;", "d1; ", "D1;", "P0,1;", "x1;", "1;", "dd1;", "d-1;", "d+1;", "p0,,1;", "p0,1,;",
            "p0.1;", "p0;1;", "d1:", "d/;", "d:;", "d1;;", "d1;d1", "d1;d1,", "p0,1,2,3,;", "p0,1,2,3,4", "d1,",
        };
        for (String text : malformed) {
            LentPhrases x = new LentPhrases();
            Checks.type(x, text);
            Checks.due(27, "fault(1) of " + text, x.fault(1), 1);
            Checks.due(27, "fault(2) of " + text, x.fault(2), Checks.NOT_FOUND);
            int position = text.startsWith("d1;") ? 3 : 0;
            Checks.due(27, "fault(0) of " + text, x.fault(0), position);
            Checks.due(28, "play() of " + text, x.play(), Checks.NOT_POSSIBLE);
        }
    }

    private static void wellFormed() {
        String[] possible = {"d1;", "d01;", "d99;", "p0,0;", "p3,63;", "p00,00,00,00;", "p3,63,63;", "p0,1,2,3;", ""};
        for (String text : possible) {
            LentPhrases x = new LentPhrases();
            Checks.type(x, text);
            for (int what = 0; what <= 2; what++) {
                Checks.due(27, "fault(" + what + ") of " + text, x.fault(what), Checks.NOT_FOUND);
            }
            Checks.due(28, "play() of " + text, x.play(), text.isEmpty() ? 0 : 1);
        }
    }

    private static void faultOfOrders() {
        LentPhrases x = Checks.oneLoan();
        String[] refused = {"p4,1;", "p0,64;", "p0,1,99;", "p0,7;", "o2,0,0;", "o0,0,0;", "o1,2,0;", "o1,0,2;",
            "l1,0,0,1;", "l0,0,0,0;", "l0,0,0,21;", "l0,0,0,1;", "f1;", "f0;", "f2;", "d0;", "d00;"};
        int[] causes = {Checks.INVALID, Checks.INVALID, Checks.INVALID, Checks.NOT_POSSIBLE, Checks.INVALID,
            Checks.NOT_POSSIBLE, Checks.INVALID, Checks.INVALID, Checks.NOT_POSSIBLE, Checks.INVALID,
            Checks.INVALID, Checks.NOT_POSSIBLE, Checks.NOT_POSSIBLE, Checks.NOT_POSSIBLE, Checks.INVALID,
            Checks.INVALID, Checks.INVALID};
        for (int i = 0; i < refused.length; i++) {
            Checks.retype(x, refused[i]);
            Checks.due(27, "fault(0) of " + refused[i], x.fault(0), 0);
            Checks.due(27, "fault(1) of " + refused[i], x.fault(1), 2);
            Checks.due(27, "fault(2) of " + refused[i], x.fault(2), causes[i]);
        }
        Checks.retype(x, "d4;p3,1;o0,0,0;");
        Checks.due(27, "fault(0) when those ahead are done", x.fault(0), 8);
        Checks.due(27, "fault(2) when those ahead are done", x.fault(2), Checks.NOT_POSSIBLE);
        Checks.retype(x, "p0,1;p0,2;o1,0,1;o2,0,1;o3,0,1;d1;");
        Checks.due(27, "fault(0) of a full page", x.fault(0), 24);
        Checks.due(27, "fault(2) of a full page", x.fault(2), Checks.LIMIT);
    }

    private static void faultBehindOrders() {
        LentPhrases x = new LentPhrases();
        Checks.type(x, "d1;f0;x");
        Checks.due(27, "the first of two faults", x.fault(0), 3);
        Checks.due(27, "its reason", x.fault(1), 2);
        Checks.retype(x, "d1;x;f0;");
        Checks.due(27, "the first of two faults", x.fault(0), 3);
        Checks.due(27, "its reason", x.fault(1), 1);
        Checks.retype(x, "p1,2;p1,3;p2,2;");
        Checks.due(27, "the same words by the text itself", x.fault(0), 10);
        Checks.due(27, "its cause", x.fault(2), Checks.NOT_POSSIBLE);
        Checks.due(27, "nothing was done", x.count(2), 0);
    }

    private static void faultArguments() {
        LentPhrases x = new LentPhrases();
        Checks.due(27, "fault(-1)", x.fault(-1), Checks.INVALID);
        Checks.due(27, "fault(3)", x.fault(3), Checks.INVALID);
        Checks.due(27, "fault(0) of none", x.fault(0), Checks.NOT_FOUND);
        Checks.due(27, "fault(1) of none", x.fault(1), Checks.NOT_FOUND);
        Checks.due(27, "fault(2) of none", x.fault(2), Checks.NOT_FOUND);
        Checks.type(x, "x");
        Checks.due(27, "fault(3) of one", x.fault(3), Checks.INVALID);
    }

    private static void play() {
        LentPhrases x = Checks.twoBooks();
        Checks.type(x, "o0,0,1;l0,1,0,4;d3;p2,7,9;d01;f0;");
        Checks.due(28, "play()", x.play(), 6);
        Checks.due(28, "the text stays", x.count(9), 33);
        Checks.due(28, "the day", x.count(3), 4);
        Checks.due(28, "fees so far", x.count(7), 20);
        Checks.due(28, "phrases", x.count(2), 3);
        Checks.due(28, "free ones", x.count(4), 3);
        Checks.due(28, "find(7, 9, -1)", x.find(7, 9, -1), 2);
        Checks.due(28, "undo()", x.undo(), 3);
        Checks.due(28, "the day before", x.count(3), 0);
        Checks.due(28, "phrases before", x.count(2), 2);
        Checks.due(28, "play() again", x.play(), 6);
        Checks.due(28, "play() a third time", x.play(), Checks.NOT_POSSIBLE);
    }

    private static void playOfEachOrder() {
        LentPhrases byText = Checks.twoBooks();
        LentPhrases byCalls = Checks.twoBooks();
        Checks.type(byText, "p3,1;p2,1,2;p1,1,2,3;o2,0,1;o1,1,0;l2,1,1,9;d8;f1;");
        Checks.due(28, "play()", byText.play(), 8);
        byCalls.phrase(3, 1, -1, -1);
        byCalls.phrase(2, 1, 2, -1);
        byCalls.phrase(1, 1, 2, 3);
        byCalls.place(2, 0, 1);
        byCalls.place(1, 1, 0);
        byCalls.lend(2, 1, 1, 9);
        byCalls.pass(8);
        byCalls.lift(1);
        Checks.holds("orders do what calls do", Checks.all(byText).equals(Checks.all(byCalls)));
        LentPhrases most = new LentPhrases();
        for (int i = 0; i < 20; i++) {
            Checks.type(most, "d1;");
        }
        Checks.due(28, "twenty orders", most.play(), 20);
        Checks.due(28, "the day", most.count(3), 20);
        Checks.due(28, "one change", most.count(8), 1);
    }

    private static void playWithFault() {
        LentPhrases x = new LentPhrases();
        Checks.type(x, "d1;d2;d0;");
        Checks.due(28, "play()", x.play(), Checks.NOT_POSSIBLE);
        Checks.due(28, "the day", x.count(3), 0);
        Checks.due(28, "no change", x.count(8), 0);
        Checks.due(28, "the text stays", x.count(9), 9);
    }

    private static void playOfNone() {
        LentPhrases x = new LentPhrases();
        Checks.due(28, "play()", x.play(), 0);
        Checks.due(28, "one change", x.count(8), 1);
        Checks.due(28, "undo()", x.undo(), 0);
    }
}
