/** Boundary cases of promises 25 to 28: type, clearText, fault, play. */
public final class TextsEdgesTest {
    private static final int INVALID = LentPhrases.INVALID_ARGUMENT;
    private static final int NOT_POSSIBLE = LentPhrases.NOT_POSSIBLE;
    private static final int LIMIT = LentPhrases.LIMIT_REACHED;
    private static final int NOT_FOUND = LentPhrases.NOT_FOUND;
    private static final String FORM = "There is a text of at most 60 characters, initially empty: orders, each "
        + "followed by \";\", of one letter and numbers of one or two digits with \",\" between two, 0 ahead allowed: "
        + "\"p\" a voice and one, two or three words (a phrase), \"o\" a phrase, a chapter, a page (placed), \"l\" a "
        + "phrase, a chapter, a page, days (lent), \"f\" a phrase (lifted), \"d\" days.";
    private static final String FAULT = "The fault of the text is the position, from 0, of the first character of the "
        + "first order that is not possible, when those ahead of it are done; its reason is 1 if it is not of this "
        + "form, its \";\" included, and otherwise 2; its cause is then the error code that the call returns for it.";

    public static void main(String[] args) {
        typeCharacter();
        typeReturns();
        typeToAFullText();
        clearTextReturns();
        clearTextEmpties();
        numbersOfDigits();
        amountsOfNumbers();
        lettersAndSigns();
        unfinishedOrders();
        faultPosition();
        faultReason();
        faultCauses();
        faultBehindOrders();
        faultOfNone();
        faultWhat();
        playReturns();
        playIsOneChange();
        playStays();
        playWithAFault();
        playToTheLimits();
        Checks.finish("TextsEdgesTest");
    }

    private static void faultDue(LentPhrases x, String text, int position, int reason, int cause) {
        Checks.retype(x, text);
        Edges.due("fault(0) of " + text, x.fault(0), position);
        Edges.due("fault(1) of " + text, x.fault(1), reason);
        Edges.due("fault(2) of " + text, x.fault(2), cause);
        Edges.due("play() of " + text, x.play(), NOT_POSSIBLE);
    }

    private static void formless(String text) {
        faultDue(new LentPhrases(), text, 0, 1, NOT_FOUND);
    }

    private static void possible(String text) {
        LentPhrases x = new LentPhrases();
        Checks.type(x, text);
        for (int what = 0; what <= 2; what++) {
            Edges.due("fault(" + what + ") of " + text, x.fault(what), NOT_FOUND);
        }
        Edges.due("play() of " + text, x.play(), 1);
    }

    private static void typeCharacter() {
        Edges.says(25, "`character`: 32 to 126");
        LentPhrases x = new LentPhrases();
        Edges.due("type(32)", x.type(32), 1);
        Edges.due("type(126)", x.type(126), 2);
        Edges.refusedOutside(Books::two, "type(?)", 32, 126, (y, character) -> y.type(character));
        Edges.refusedOutside(Books::fullText, "type(?)", 32, 126, (y, character) -> y.type(character));
    }

    private static void typeReturns() {
        Edges.says(25, "Returns the length of the text; INVALID_ARGUMENT if character is out of range; LIMIT_REACHED "
            + "if it has 60 characters.");
        LentPhrases x = new LentPhrases();
        for (int i = 1; i <= 60; i++) {
            Edges.due("type(59), the " + i + "th", x.type(59), i);
        }
        Edges.due("the 61st", x.type(59), LIMIT);
        Edges.due("the length", x.count(9), 60);
        Edges.refused(Books::fullText, "type(32) to a full one", y -> y.type(32), LIMIT);
        Edges.refused(Books::fullText, "type(126) to a full one", y -> y.type(126), LIMIT);
        x.clearText();
        Edges.due("the first again", x.type(59), 1);
    }

    private static void typeToAFullText() {
        Edges.says(25, "Appends a character to the text.");
        LentPhrases x = new LentPhrases();
        Checks.type(x, "d1;".repeat(20));
        Edges.due("no fault of a full text", x.fault(0), NOT_FOUND);
        Edges.due("typing is no change", x.count(8), 0);
        Checks.type(x, "d1;");
        Edges.due("what is typed behind it is not there", x.fault(0), NOT_FOUND);
        Edges.due("orders of a full text", x.play(), 20);
    }

    private static void clearTextReturns() {
        Edges.says(26, "Returns the length it had.");
        Edges.due("of an empty one", new LentPhrases().clearText(), 0);
        Edges.due("of a full one", Books.fullText().clearText(), 60);
        LentPhrases x = new LentPhrases();
        x.type(32);
        Edges.due("of one sign", x.clearText(), 1);
        Edges.due("again", x.clearText(), 0);
    }

    private static void clearTextEmpties() {
        Edges.says(26, "Empties the text.");
        LentPhrases x = Books.fullText();
        int states = x.count(8);
        x.clearText();
        Edges.due("its length", x.count(9), 0);
        Edges.due("no fault", x.fault(0), NOT_FOUND);
        Edges.due("no change", x.count(8), states);
        Checks.type(x, "d");
        Edges.due("nothing of the old text", x.fault(0), 0);
        Edges.due("orders of none", new LentPhrases().play(), 0);
    }

    private static void numbersOfDigits() {
        Edges.says(27, FORM);
        possible("d1;");
        possible("d01;");
        possible("d9;");
        possible("d10;");
        possible("d99;");
        possible("p0,0;");
        possible("p00,00;");
        possible("p03,63,63,63;");
        possible("p3,09,08,07;");
        formless("d;");
        formless("d100;");
        formless("d001;");
        formless("d000;");
        formless("p000,1;");
        formless("p0,100;");
        formless("p0,1,100;");
        formless("p0,1,1,100;");
        formless("p,1;");
        formless("p0,;");
        formless("p0,,1;");
        faultDue(new LentPhrases(), "d0;", 0, 2, INVALID);
        faultDue(new LentPhrases(), "d00;", 0, 2, INVALID);
        faultDue(new LentPhrases(), "p04,1;", 0, 2, INVALID);
        faultDue(new LentPhrases(), "p0,64;", 0, 2, INVALID);
        faultDue(new LentPhrases(), "p0,63,64;", 0, 2, INVALID);
        faultDue(new LentPhrases(), "p0,63,63,64;", 0, 2, INVALID);
    }

    private static void amountsOfNumbers() {
        Edges.says(27, FORM);
        possible("p1,2;");
        possible("p1,2,3;");
        possible("p1,2,3,4;");
        formless("p1;");
        formless("p1,2,3,4,5;");
        formless("o0,0;");
        formless("o0,0,0,0;");
        formless("l0,0,0;");
        formless("l0,0,0,1,1;");
        formless("f0,0;");
        formless("f;");
        formless("d1,1;");
        faultDue(new LentPhrases(), "o0,0,0;", 0, 2, INVALID);
        faultDue(new LentPhrases(), "l0,0,0,1;", 0, 2, INVALID);
        faultDue(new LentPhrases(), "f0;", 0, 2, INVALID);
    }

    private static void lettersAndSigns() {
        Edges.says(27, FORM);
        for (char letter = 32; letter <= 126; letter++) {
            if (letter != 'd' && letter != 'f') {
                formless(letter + "1;");
            }
            if (letter != ';' && letter != ',' && (letter < '0' || letter > '9')) {
                formless("d1" + letter);
                formless("d1" + letter + ";");
                formless("d" + letter + "1;");
            }
        }
        formless(" d1;");
        formless(";");
        formless(",");
        formless("1;");
        formless("d1,;");
        formless("D1;");
        formless("P0,1;");
    }

    private static void unfinishedOrders() {
        Edges.says(27, FAULT);
        String whole = "l0,1,0,20;";
        for (int length = 1; length < whole.length(); length++) {
            formless(whole.substring(0, length));
        }
        formless("d" + "1".repeat(59));
        formless("p0,1,2,3,".repeat(6));
        LentPhrases x = Books.fullText();
        for (int length = 58; length <= 59; length++) {
            x.clearText();
            Checks.type(x, "d1;".repeat(20).substring(0, length));
            Edges.due("fault(0) of " + length, x.fault(0), 57);
            Edges.due("fault(1) of " + length, x.fault(1), 1);
        }
        x.type(';');
        Edges.due("fault(0) of 60", x.fault(0), NOT_FOUND);
    }

    private static void faultPosition() {
        Edges.says(27, FAULT);
        LentPhrases x = new LentPhrases();
        faultDue(x, "x", 0, 1, NOT_FOUND);
        faultDue(x, "f0;", 0, 2, INVALID);
        faultDue(x, "d1;x", 3, 1, NOT_FOUND);
        faultDue(x, "d1;d2;d0;", 6, 2, INVALID);
        faultDue(x, "d1;".repeat(19) + "d0;", 57, 2, INVALID);
        faultDue(x, "d1;".repeat(19) + "d11", 57, 1, NOT_FOUND);
        faultDue(x, "d01;".repeat(14) + "d1;;", 59, 1, NOT_FOUND);
        faultDue(x, "d1; d1;", 3, 1, NOT_FOUND);
        faultDue(x, "d1;d1 ;", 3, 1, NOT_FOUND);
        Edges.due("the day", x.count(3), 0);
    }

    private static void faultReason() {
        Edges.says(27, FAULT);
        LentPhrases x = new LentPhrases();
        faultDue(x, "d0;x", 0, 2, INVALID);
        faultDue(x, "x;d0;", 0, 1, NOT_FOUND);
        faultDue(x, "d0", 0, 1, NOT_FOUND);
        faultDue(x, "f0;f0;", 0, 2, INVALID);
    }

    private static void faultCauses() {
        Edges.says(27, FAULT);
        faultDue(Books.two(), "p0,7;", 0, 2, NOT_POSSIBLE);
        faultDue(Books.allPhrases(), "p0,24;", 0, 2, LIMIT);
        faultDue(Books.allPhrases(), "p0,23;", 0, 2, NOT_POSSIBLE);
        faultDue(Books.allPhrases(), "p4,23;", 0, 2, INVALID);
        faultDue(Books.fullPage(), "o1,0,1;", 0, 2, LIMIT);
        faultDue(Books.fullPage(), "o2,0,1;", 0, 2, NOT_POSSIBLE);
        faultDue(Books.fullPage(), "o5,0,1;", 0, 2, INVALID);
        faultDue(Books.two(), "o1,2,0;", 0, 2, INVALID);
        faultDue(Books.two(), "o1,0,2;", 0, 2, INVALID);
        faultDue(Books.two(), "l1,0,0,1;", 0, 2, NOT_POSSIBLE);
        faultDue(Books.two(), "l0,1,0,21;", 0, 2, INVALID);
        faultDue(Books.two(), "l0,1,0,0;", 0, 2, INVALID);
        faultDue(Books.two(), "l0,1,2,1;", 0, 2, INVALID);
        faultDue(Books.fullPage(), "o1,1,1;l1,0,1,1;", 7, 2, LIMIT);
        faultDue(Books.two(), "f1;", 0, 2, NOT_POSSIBLE);
        faultDue(Books.loan(), "f0;", 0, 2, NOT_POSSIBLE);
        faultDue(Books.two(), "f2;", 0, 2, INVALID);
        faultDue(Books.lastDay(), "d1;", 0, 2, LIMIT);
        faultDue(Books.lastDay(), "d0;", 0, 2, INVALID);
    }

    private static void faultBehindOrders() {
        Edges.says(27, FAULT);
        faultDue(Books.two(), "f0;f0;", 3, 2, NOT_POSSIBLE);
        faultDue(Books.two(), "l0,1,0,1;f0;", 9, 2, NOT_POSSIBLE);
        faultDue(Books.two(), "p0,1;p1,1;", 5, 2, NOT_POSSIBLE);
        faultDue(Books.two(), "p0,1;o2,0,1;o1,0,1;p0,2;o3,0,1;", 24, 2, LIMIT);
        LentPhrases x = Books.loan();
        Checks.retype(x, "d4;f0;");
        Edges.due("at home when the days are done", x.fault(0), NOT_FOUND);
        Checks.retype(x, "d3;f0;");
        Edges.due("not at home a day ahead", x.fault(0), 3);
        LentPhrases all = Books.allPhrases();
        all.undo();
        all.undo();
        faultDue(all, "p0,60;p0,61;", 6, 2, LIMIT);
    }

    private static void faultOfNone() {
        Edges.says(27, "Returns that; INVALID_ARGUMENT if what is out of range; NOT_FOUND if the text has no fault "
            + "(also if it is empty), for 2 if its reason is 1.");
        for (int what = 0; what <= 2; what++) {
            int asked = what;
            Edges.refused(Books::fresh, "fault(" + what + ") of an empty text", x -> x.fault(asked), NOT_FOUND);
            Edges.refused(Books::two, "fault(" + what + ") of a text", x -> x.fault(asked), NOT_FOUND);
            Edges.refused(Books::fullText, "fault(" + what + ") of a full text", x -> x.fault(asked), NOT_FOUND);
        }
        Edges.refused(TextsEdgesTest::malformed, "fault(2) for the reason 1", x -> x.fault(2), NOT_FOUND);
        LentPhrases x = malformed();
        x.clearText();
        Edges.due("fault(1) of what is cleared", x.fault(1), NOT_FOUND);
    }

    private static LentPhrases malformed() {
        LentPhrases x = Books.two();
        x.type('x');
        return x;
    }

    private static void faultWhat() {
        Edges.says(27, "`what`: 0: its position; 1: its reason; 2: its cause");
        Edges.refusedOutside(Books::fresh, "fault(?)", 0, 2, (x, what) -> x.fault(what));
        Edges.refusedOutside(TextsEdgesTest::malformed, "fault(?)", 0, 2, (x, what) -> x.fault(what));
        Edges.refusedOutside(Books::fullText, "fault(?)", 0, 2, (x, what) -> x.fault(what));
    }

    private static void playReturns() {
        Edges.says(28, "Returns how many there are in it; NOT_POSSIBLE if it has a fault.");
        LentPhrases x = Books.fullText();
        Edges.due("of a full text", x.play(), 20);
        Edges.due("the day", x.count(3), 20);
        x.clearText();
        Edges.due("of an empty text", x.play(), 0);
        Edges.due("the day", x.count(3), 20);
        Checks.type(x, "d99;");
        Edges.due("of one", x.play(), 1);
        Edges.due("the day", x.count(3), 119);
    }

    private static void playIsOneChange() {
        Edges.says(28, "They are one change, also if there are none.");
        LentPhrases x = new LentPhrases();
        Edges.due("play() of none", x.play(), 0);
        Edges.due("states", x.count(8), 1);
        Checks.type(x, "d1;".repeat(20));
        x.play();
        Edges.due("states behind twenty", x.count(8), 2);
        for (int i = 0; i < 4; i++) {
            x.play();
        }
        Edges.due("states of a full history", x.count(8), 4);
        Edges.due("the day", x.count(3), 100);
        x.undo();
        Edges.due("all twenty are undone", x.count(3), 80);
        LentPhrases none = new LentPhrases();
        for (int i = 0; i < 5; i++) {
            none.play();
        }
        Edges.due("five times none", none.undo(), 3);
    }

    private static void playStays() {
        Edges.says(28, "Does all orders of the text, which stays.");
        LentPhrases x = Books.fullText();
        x.play();
        Edges.due("the length", x.count(9), 60);
        Edges.due("no fault again", x.fault(0), NOT_FOUND);
        Edges.due("again", x.play(), 20);
        LentPhrases once = new LentPhrases();
        Checks.type(once, "p0,1;");
        once.play();
        Edges.due("the fault when it is done", once.fault(2), NOT_POSSIBLE);
        Edges.due("the length", once.count(9), 5);
    }

    private static void playWithAFault() {
        Edges.says(28, "Returns how many there are in it; NOT_POSSIBLE if it has a fault.");
        Edges.refused(TextsEdgesTest::malformed, "play() with a fault at the end", x -> x.play(), NOT_POSSIBLE);
        Edges.refused(TextsEdgesTest::faultOfALimit, "play() with a limit reached", x -> x.play(), NOT_POSSIBLE);
        Edges.refused(TextsEdgesTest::faultOfAnArgument, "play() out of range", x -> x.play(), NOT_POSSIBLE);
    }

    private static LentPhrases faultOfALimit() {
        LentPhrases x = Books.fullPage();
        Checks.retype(x, "d1;p0,50;f2;o5,0,1;o1,0,1;");
        return x;
    }

    private static LentPhrases faultOfAnArgument() {
        LentPhrases x = Books.loan();
        Checks.retype(x, "d4;f0;o0,1,1;d0;");
        return x;
    }

    private static void playToTheLimits() {
        Edges.says(28, "Does all orders of the text, which stays.");
        LentPhrases x = Books.loan();
        Checks.retype(x, "p0,0;p3,63,63,63;o3,0,0;d99;l3,1,1,20;d19;f0;");
        Edges.due("play()", x.play(), 7);
        int[] last = {3, 63, 63, 63, 1, 1, 1, 119, 0, 0, 1};
        for (int what = 0; what <= 10; what++) {
            Edges.due("phraseOf(3, " + what + ")", x.phraseOf(3, what), last[what]);
        }
        Edges.due("the day", x.count(3), 118);
        Edges.due("free ones", x.count(4), 3);
        Edges.due("fees so far", x.count(7), 120);
        Edges.due("the purse", x.clientOf(1, 1), 1000 - 50 - 20 - 100);
        Edges.due("undo()", x.undo(), 3);
        Edges.due("the day before", x.count(3), 0);
        Edges.due("phrases before", x.count(2), 2);
    }
}
