/** Boundary cases of promises 1 to 4: a new object, client, chapter, phrase. */
public final class AddingEdgesTest {
    private static final int INVALID = LentPhrases.INVALID_ARGUMENT;
    private static final int NOT_POSSIBLE = LentPhrases.NOT_POSSIBLE;
    private static final int LIMIT = LentPhrases.LIMIT_REACHED;
    private static final int NOT_FOUND = LentPhrases.NOT_FOUND;

    public static void main(String[] args) {
        newObjectIsEmpty();
        newObjectRefuses();
        clientIsAdded();
        clientVoice();
        clientPurse();
        clientReturns();
        chapterIsPaid();
        chapterClient();
        chapterPages();
        chapterPrice();
        chapterReturns();
        phraseIsFree();
        phraseVoice();
        phraseFirstWord();
        phraseSecondWord();
        phraseThirdWord();
        phraseReturns();
        Checks.finish("AddingEdgesTest");
    }

    private static void newObjectIsEmpty() {
        Edges.says(1, "Creates a writer without clients.");
        LentPhrases x = new LentPhrases();
        for (int what = 0; what <= 11; what++) {
            Edges.due("count(" + what + ")", x.count(what), 0);
        }
        Edges.due("count(20)", x.count(20), 5);
        Edges.due("count(21)", x.count(21), 2);
        Edges.due("coming(1, 0)", x.coming(1, 0), 0);
        Edges.due("coming(99, 1)", x.coming(99, 1), 0);
        Edges.due("find(0, -1, -1)", x.find(0, -1, -1), NOT_FOUND);
        Edges.due("best(0)", x.best(0), NOT_FOUND);
        Edges.due("best(1)", x.best(1), NOT_FOUND);
        Edges.due("fault(0)", x.fault(0), NOT_FOUND);
        Edges.due("clearText()", x.clearText(), 0);
        Edges.due("keep()", x.keep(), 0);
    }

    private static void newObjectRefuses() {
        Edges.says(1, "Creates a writer without clients.");
        Edges.refused(Books::fresh, "chapter(0, 1, 0)", x -> x.chapter(0, 1, 0), INVALID);
        Edges.refused(Books::fresh, "place(0, 0, 0)", x -> x.place(0, 0, 0), INVALID);
        Edges.refused(Books::fresh, "lift(0)", x -> x.lift(0), INVALID);
        Edges.refused(Books::fresh, "lend(0, 0, 0, 1)", x -> x.lend(0, 0, 0, 1), INVALID);
        Edges.refused(Books::fresh, "buyBack(0)", x -> x.buyBack(0), INVALID);
        Edges.refused(Books::fresh, "sell(0, 0, 0)", x -> x.sell(0, 0, 0), INVALID);
        Edges.refused(Books::fresh, "clientOf(0, 0)", x -> x.clientOf(0, 0), INVALID);
        Edges.refused(Books::fresh, "chapterOf(0, 0)", x -> x.chapterOf(0, 0), INVALID);
        Edges.refused(Books::fresh, "phraseOf(0, 0)", x -> x.phraseOf(0, 0), INVALID);
        Edges.refused(Books::fresh, "on(0, 0, 10)", x -> x.on(0, 0, 10), INVALID);
        Edges.refused(Books::fresh, "tells(0, 0)", x -> x.tells(0, 0), INVALID);
        Edges.refused(Books::fresh, "alike(0)", x -> x.alike(0), INVALID);
        Edges.refused(Books::fresh, "restore()", x -> x.restore(), NOT_POSSIBLE);
        Edges.refused(Books::fresh, "undo()", x -> x.undo(), NOT_POSSIBLE);
    }

    private static void clientIsAdded() {
        Edges.says(2, "Adds a client.");
        LentPhrases x = Books.two();
        String others = x.clientOf(0, 1) + " " + x.clientOf(1, 1) + " " + x.count(6);
        Edges.due("client(2, 77)", x.client(2, 77), 2);
        int[] added = {2, 77, 0, 0, 0, 0, 0};
        for (int what = 0; what <= 6; what++) {
            Edges.due("clientOf(2, " + what + ")", x.clientOf(2, what), added[what]);
        }
        Edges.same("the others", x.clientOf(0, 1) + " " + x.clientOf(1, 1) + " " + x.count(6), others);
        Edges.due("clients", x.count(0), 3);
    }

    private static void clientVoice() {
        Edges.says(2, "`voice`: 0 to 3");
        LentPhrases x = new LentPhrases();
        Edges.due("client(0, 7)", x.client(0, 7), 0);
        Edges.due("client(3, 7)", x.client(3, 7), 1);
        Edges.due("the least voice", x.clientOf(0, 0), 0);
        Edges.due("the greatest voice", x.clientOf(1, 0), 3);
        Edges.refusedOutside(Books::two, "client(?, 0)", 0, 3, (y, voice) -> y.client(voice, 0));
    }

    private static void clientPurse() {
        Edges.says(2, "`purse`: 0 to 9999");
        LentPhrases x = new LentPhrases();
        Edges.due("client(1, 0)", x.client(1, 0), 0);
        Edges.due("client(1, 9999)", x.client(1, 9999), 1);
        Edges.due("the least purse", x.clientOf(0, 1), 0);
        Edges.due("the greatest purse", x.clientOf(1, 1), 9999);
        Edges.refusedOutside(Books::two, "client(0, ?)", 0, 9999, (y, purse) -> y.client(0, purse));
    }

    private static void clientReturns() {
        Edges.says(2, "Returns the number of the client; INVALID_ARGUMENT if an argument is out of range; "
            + "LIMIT_REACHED if there are 5.");
        LentPhrases x = new LentPhrases();
        for (int i = 0; i < 5; i++) {
            Edges.due("client " + i, x.client(0, 0), i);
        }
        Edges.refused(Books::fiveClients, "a sixth", y -> y.client(3, 9999), LIMIT);
        Edges.refused(Books::fiveClients, "a sixth of no voice", y -> y.client(4, 0), INVALID);
        Edges.refused(Books::fiveClients, "a sixth that owes", y -> y.client(0, -1), INVALID);
        x.undo();
        Edges.due("a fifth again", x.client(1, 1), 4);
    }

    private static void chapterIsPaid() {
        Edges.says(3, "Sells a chapter of the writer to a client, who pays the price.");
        LentPhrases x = new LentPhrases();
        x.client(0, 999);
        x.client(0, 1);
        Edges.due("chapter(0, 1, 0)", x.chapter(0, 1, 0), 0);
        Edges.due("purse behind nothing", x.clientOf(0, 1), 999);
        Edges.due("account behind nothing", x.count(6), 0);
        Edges.due("chapter(0, 1, 999)", x.chapter(0, 1, 999), 1);
        Edges.due("purse behind all", x.clientOf(0, 1), 0);
        Edges.due("the other purse", x.clientOf(1, 1), 1);
        Edges.due("account behind all", x.count(6), 999);
    }

    private static void chapterClient() {
        Edges.says(3, "`client`: number of the client");
        LentPhrases x = Books.fiveClients();
        Edges.due("chapter(0, 1, 0)", x.chapter(0, 1, 0), 0);
        Edges.due("chapter(4, 1, 0)", x.chapter(4, 1, 0), 1);
        Edges.due("the least client", x.chapterOf(0, 0), 0);
        Edges.due("the greatest client", x.chapterOf(1, 0), 4);
        Edges.refusedOutside(Books::fiveClients, "chapter(?, 1, 0)", 0, 4, (y, client) -> y.chapter(client, 1, 0));
        Edges.refusedOutside(Books::two, "chapter(?, 1, 0)", 0, 1, (y, client) -> y.chapter(client, 1, 0));
    }

    private static void chapterPages() {
        Edges.says(3, "`pages`: 1 to 20");
        LentPhrases x = Books.two();
        Edges.due("chapter(0, 1, 0)", x.chapter(0, 1, 0), 2);
        Edges.due("chapter(0, 20, 0)", x.chapter(0, 20, 0), 3);
        Edges.due("the least pages", x.chapterOf(2, 1), 1);
        Edges.due("the greatest pages", x.chapterOf(3, 1), 20);
        Edges.refusedOutside(Books::two, "chapter(0, ?, 0)", 1, 20, (y, pages) -> y.chapter(0, pages, 0));
    }

    private static void chapterPrice() {
        Edges.says(3, "`price`: 0 to 999");
        LentPhrases x = new LentPhrases();
        x.client(0, 9999);
        Edges.due("chapter(0, 1, 0)", x.chapter(0, 1, 0), 0);
        Edges.due("chapter(0, 1, 999)", x.chapter(0, 1, 999), 1);
        Edges.due("the least price", x.chapterOf(0, 2), 0);
        Edges.due("the greatest price", x.chapterOf(1, 2), 999);
        Edges.refusedOutside(Books::two, "chapter(0, 1, ?)", 0, 999, (y, price) -> y.chapter(0, 1, price));
    }

    private static void chapterReturns() {
        Edges.says(3, "Returns the number of the chapter; INVALID_ARGUMENT if an argument is out of range; "
            + "NOT_POSSIBLE if the purse has less; LIMIT_REACHED if there are 10.");
        LentPhrases x = new LentPhrases();
        x.client(0, 0);
        for (int i = 0; i < 10; i++) {
            Edges.due("chapter " + i, x.chapter(0, 1, 0), i);
        }
        Edges.refused(Books::fiveClients, "with a purse of 0", y -> y.chapter(0, 1, 1), NOT_POSSIBLE);
        Edges.refused(Books::fiveClients, "with one less", y -> y.chapter(1, 1, 11), NOT_POSSIBLE);
        LentPhrases all = Books.fiveClients();
        Edges.due("with just as much", all.chapter(1, 1, 10), 0);
        Edges.due("the purse then", all.clientOf(1, 1), 0);
        Edges.refused(Books::tenChapters, "an eleventh", y -> y.chapter(0, 1, 0), LIMIT);
        Edges.refused(Books::tenChapters, "an eleventh for the whole purse", y -> y.chapter(1, 1, 30), LIMIT);
        Edges.refused(Books::tenChapters, "an eleventh, too dear", y -> y.chapter(1, 1, 31), NOT_POSSIBLE);
        Edges.refused(Books::tenChapters, "an eleventh, too dear, of no page", y -> y.chapter(1, 0, 31), INVALID);
        x.buyBack(9);
        Edges.due("a tenth again", x.chapter(0, 2, 0), 9);
    }

    private static void phraseIsFree() {
        Edges.says(4, "Adds a phrase, which is free.");
        LentPhrases x = Books.fullPage();
        int free = x.count(4);
        Edges.due("phrase(3, 63, 63, 63)", x.phrase(3, 63, 63, 63), 5);
        Edges.due("free ones", x.count(4), free + 1);
        for (int what = 4; what <= 9; what++) {
            Edges.due("phraseOf(5, " + what + ")", x.phraseOf(5, what), NOT_FOUND);
        }
        Edges.due("how often it was lent", x.phraseOf(5, 10), 0);
    }

    private static void phraseVoice() {
        Edges.says(4, "`voice`: 0 to 3");
        LentPhrases x = Books.two();
        Edges.due("phrase(0, 1, -1, -1)", x.phrase(0, 1, -1, -1), 2);
        Edges.due("phrase(3, 2, -1, -1)", x.phrase(3, 2, -1, -1), 3);
        Edges.due("the least voice", x.phraseOf(2, 0), 0);
        Edges.due("the greatest voice", x.phraseOf(3, 0), 3);
        Edges.refusedOutside(Books::two, "phrase(?, 1, 1, 1)", 0, 3, (y, voice) -> y.phrase(voice, 1, 1, 1));
    }

    private static void phraseFirstWord() {
        Edges.says(4, "`one`: the first word, 0 to 63");
        LentPhrases x = Books.two();
        Edges.due("phrase(0, 0, -1, -1)", x.phrase(0, 0, -1, -1), 2);
        Edges.due("phrase(0, 63, -1, -1)", x.phrase(0, 63, -1, -1), 3);
        Edges.due("the least word", x.phraseOf(2, 1), 0);
        Edges.due("the greatest word", x.phraseOf(3, 1), 63);
        Edges.refusedOutside(Books::two, "phrase(0, ?, -1, -1)", 0, 63, (y, word) -> y.phrase(0, word, -1, -1));
        Edges.refusedOutside(Books::two, "phrase(0, ?, 1, 1)", 0, 63, (y, word) -> y.phrase(0, word, 1, 1));
    }

    private static void phraseSecondWord() {
        Edges.says(4, "`two`: the second word, 0 to 63, -1: there is none");
        LentPhrases x = Books.two();
        Edges.due("phrase(0, 5, 0, -1)", x.phrase(0, 5, 0, -1), 2);
        Edges.due("phrase(0, 5, 63, -1)", x.phrase(0, 5, 63, -1), 3);
        Edges.due("phrase(0, 5, -1, -1)", x.phrase(0, 5, -1, -1), 4);
        Edges.due("the least word", x.phraseOf(2, 2), 0);
        Edges.due("the greatest word", x.phraseOf(3, 2), 63);
        Edges.due("none", x.phraseOf(4, 2), NOT_FOUND);
        Edges.refusedOutside(Books::two, "phrase(0, 1, ?, -1)", -1, 63, (y, word) -> y.phrase(0, 1, word, -1));
        Edges.refusedOutside(Books::two, "phrase(0, 1, ?, 1)", 0, 63, (y, word) -> y.phrase(0, 1, word, 1));
    }

    private static void phraseThirdWord() {
        Edges.says(4, "`three`: the third word, 0 to 63, -1: there is none; it has to be -1 if two is");
        LentPhrases x = Books.two();
        Edges.due("phrase(0, 5, 0, 0)", x.phrase(0, 5, 0, 0), 2);
        Edges.due("phrase(0, 5, 0, 63)", x.phrase(0, 5, 0, 63), 3);
        Edges.due("phrase(0, 5, 0, -1)", x.phrase(0, 5, 0, -1), 4);
        Edges.due("the least word", x.phraseOf(2, 3), 0);
        Edges.due("the greatest word", x.phraseOf(3, 3), 63);
        Edges.due("none", x.phraseOf(4, 3), NOT_FOUND);
        Edges.refusedOutside(Books::two, "phrase(0, 1, 1, ?)", -1, 63, (y, word) -> y.phrase(0, 1, 1, word));
        Edges.refusedOutside(Books::two, "phrase(0, 1, -1, ?)", -1, -1, (y, word) -> y.phrase(0, 1, -1, word));
        Edges.refused(Books::two, "phrase(0, 1, -1, 0)", y -> y.phrase(0, 1, -1, 0), INVALID);
        Edges.refused(Books::two, "phrase(0, 1, -1, 63)", y -> y.phrase(0, 1, -1, 63), INVALID);
    }

    private static void phraseReturns() {
        Edges.says(4, "Returns its number; INVALID_ARGUMENT if an argument is out of range; NOT_POSSIBLE if there is "
            + "one with these words; LIMIT_REACHED if there are 24.");
        LentPhrases x = new LentPhrases();
        for (int i = 0; i < 24; i++) {
            Edges.due("phrase " + i, x.phrase(0, 0, i, 63 - i), i);
        }
        Edges.due("phrases", x.count(2), 24);
        Edges.refused(Books::allPhrases, "a 25th", y -> y.phrase(0, 24, -1, -1), LIMIT);
        Edges.refused(Books::allPhrases, "the first one's words", y -> y.phrase(1, 0, -1, -1), NOT_POSSIBLE);
        Edges.refused(Books::allPhrases, "the last one's words", y -> y.phrase(3, 23, -1, -1), NOT_POSSIBLE);
        Edges.refused(Books::allPhrases, "the last one's words, no voice", y -> y.phrase(4, 23, -1, -1), INVALID);
        Edges.refused(Books::two, "the words of a placed one", y -> y.phrase(0, 7, -1, -1), NOT_POSSIBLE);
        Edges.refused(Books::loan, "the words of a lent one", y -> y.phrase(3, 7, -1, -1), NOT_POSSIBLE);
        x.undo();
        Edges.due("a 24th again", x.phrase(0, 0, 0, 0), 23);
    }
}
