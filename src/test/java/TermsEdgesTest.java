import java.util.function.ToIntFunction;

/** Boundary cases of what the document says ahead of its promises. */
public final class TermsEdgesTest {
    private static final int INVALID = LentPhrases.INVALID_ARGUMENT;
    private static final int NOT_POSSIBLE = LentPhrases.NOT_POSSIBLE;
    private static final int LIMIT = LentPhrases.LIMIT_REACHED;
    private static final int NOT_FOUND = LentPhrases.NOT_FOUND;
    private static final String BOUGHT_BACK = "Phrases of its pages that are not lent are free then; those that are "
        + "lent to it go home at once (nothing is paid back), or are free if their home is gone; those that are lent "
        + "from it stay where they are, and have no home any more.";

    private static final String[] CALLS = {"client", "chapter", "phrase", "place", "lift", "lend", "buyBack", "sell",
        "pass", "set", "restore", "play"};

    public static void main(String[] args) {
        divisions();
        setsOfVoices();
        clients();
        account();
        chapters();
        chaptersOfLoans();
        chapterPages();
        day();
        phrases();
        freeOrOnAPage();
        placesOfAPage();
        keptPlaces();
        loans();
        loanDue();
        loanEnds();
        loanWithoutHome();
        boughtBackPays();
        boughtBackFrees();
        boughtBackSendsHome();
        boughtBackTakesHomes();
        boughtBackIsGone();
        sold();
        soldEndsLoans();
        tellsAndReaders();
        settings();
        text();
        changes();
        noChanges();
        history();
        severalErrors();
        errorsChangeNothing();
        noSuchNumber();
        Checks.finish("TermsEdgesTest");
    }

    private static void divisions() {
        Edges.says(0, "Divisions are rounded down.");
        LentPhrases x = new LentPhrases();
        x.client(0, 9999);
        x.set(1, 1);
        int[] prices = {0, 1, 99, 100, 101, 199, 200, 999};
        int[] left = {0, 0, 98, 99, 99, 197, 198, 989};
        for (int price : prices) {
            x.chapter(0, 1, price);
        }
        x.pass(1);
        for (int i = 0; i < prices.length; i++) {
            Edges.due("99 hundredths of " + prices[i], x.chapterOf(i, 5), left[i]);
        }
    }

    private static void setsOfVoices() {
        Edges.says(0, "Sets of voices are told as bits: bit k is for the voice k.");
        for (int voice = 0; voice <= 3; voice++) {
            LentPhrases x = new LentPhrases();
            x.client((voice + 1) % 4, 0);
            x.chapter(0, 1, 0);
            x.phrase(voice, 0, -1, -1);
            x.place(0, 0, 0);
            for (int known = 0; known <= 15; known++) {
                int bit = known / (1 << voice) % 2;
                Edges.due("voice " + voice + ", tells(0, " + known + ")", x.tells(0, known), bit);
            }
        }
    }

    private static void clients() {
        Edges.says(0, "There are at most 5 clients, numbered from 0, each with a voice (0 to 3) and a purse.");
        LentPhrases x = Books.fiveClients();
        for (int i = 0; i < 5; i++) {
            Edges.due("voice of " + i, x.clientOf(i, 0), i % 4);
            Edges.due("purse of " + i, x.clientOf(i, 1), 10 * i);
        }
        Edges.due("a sixth", x.client(0, 0), LIMIT);
        Edges.due("clients", x.count(0), 5);
        Edges.due("none of the number 5", x.clientOf(5, 0), INVALID);
    }

    private static void account() {
        Edges.says(0, "The writer has an account (0 at first; it can be below 0).");
        LentPhrases x = new LentPhrases();
        Edges.due("at first", x.count(6), 0);
        x.client(0, 0);
        x.client(0, 999);
        x.chapter(0, 1, 0);
        x.sell(0, 1, 1);
        Edges.due("behind a sale from client to client", x.count(6), 0);
        x.buyBack(0);
        Edges.due("just below 0", x.count(6), -1);
        for (int i = 0; i < 10; i++) {
            x.chapter(i % 2, 1, 0);
            x.sell(0, 1 - i % 2, 999 - i);
            Edges.due("paid back " + i, x.buyBack(0), 999 - i);
        }
        Edges.due("far below 0", x.count(6), -1 - 9990 + 45);
    }

    private static void chapters() {
        Edges.says(0, "There are at most 10 chapters, numbered from 0 in the order in which they came; if one is "
            + "gone, those behind it have numbers that are less by 1.");
        for (int gone = 0; gone < 10; gone++) {
            LentPhrases x = Books.tenChapters();
            Edges.due("an eleventh", x.chapter(0, 1, 0), LIMIT);
            x.phrase(0, 1, -1, -1);
            x.place(0, 9, 9);
            x.buyBack(gone);
            for (int i = 0; i < 9; i++) {
                Edges.due("pages of " + i + ", " + gone + " gone", x.chapterOf(i, 1), i < gone ? i + 1 : i + 2);
                Edges.due("client of " + i + ", " + gone + " gone", x.chapterOf(i, 0), i < gone ? i % 2 : 1 - i % 2);
            }
            Edges.due("chapters, " + gone + " gone", x.count(1), 9);
            Edges.due("none of the number 9, " + gone + " gone", x.chapterOf(9, 0), INVALID);
            Edges.due("the phrase, " + gone + " gone", x.phraseOf(0, 4), gone == 9 ? NOT_FOUND : 8);
            Edges.due("a tenth again", x.chapter(1, 20, 0), 9);
            Edges.due("it is empty", x.chapterOf(9, 4), 0);
        }
    }

    private static void chaptersOfLoans() {
        Edges.says(0, "There are at most 10 chapters, numbered from 0 in the order in which they came; if one is gone, "
            + "those behind it have numbers that are less by 1.");
        for (int gone = 0; gone < 10; gone++) {
            LentPhrases x = Books.tenChapters();
            x.phrase(0, 1, -1, -1);
            x.place(0, 5, 5);
            x.lend(0, 4, 4, 2);
            x.buyBack(gone);
            int home = gone < 5 ? 4 : gone == 5 ? NOT_FOUND : 5;
            int there = gone < 4 ? 3 : gone == 4 ? home : 4;
            Edges.due("where it is, " + gone + " gone", x.phraseOf(0, 4), there);
            Edges.due("its home, " + gone + " gone", x.phraseOf(0, 8), gone == 4 ? NOT_FOUND : home);
            x.pass(2);
            Edges.due("where it is then, " + gone + " gone", x.phraseOf(0, 4), home);
            Edges.due("the page, " + gone + " gone", x.phraseOf(0, 5), gone == 5 ? NOT_FOUND : 5);
        }
    }

    private static void chapterPages() {
        Edges.says(0, "A chapter has a client, whose book it is in, pages (1 to 20, numbered from 0), a price, and "
            + "the day on which it was bought (by this client).");
        LentPhrases x = Books.allPhrases();
        for (int page = 0; page < 20; page++) {
            Edges.due("place on page " + page, x.place(page, 0, page), 2);
            Edges.due("the phrase of page " + page, x.on(0, page, 0), page);
        }
        Edges.due("page 20", x.place(20, 0, 20), INVALID);
        Edges.due("page -1", x.place(20, 0, -1), INVALID);
        x.chapter(0, 1, 0);
        Edges.due("page 0 of 1", x.place(20, 1, 0), 2);
        Edges.due("page 1 of 1", x.place(21, 1, 1), INVALID);
        x.pass(9);
        x.client(1, 9);
        x.sell(1, 1, 9);
        Edges.due("the day on which this client bought it", x.chapterOf(1, 3), 9);
        Edges.due("the day of the other", x.chapterOf(0, 3), 0);
    }

    private static void day() {
        Edges.says(0, "Time is a day, 0 at first.");
        LentPhrases x = new LentPhrases();
        Edges.due("the day", x.count(3), 0);
        x.client(0, 9);
        x.chapter(0, 1, 0);
        Edges.due("the day on which it was bought", x.chapterOf(0, 3), 0);
        Edges.due("only pass() and play() move it", x.count(3), 0);
        Edges.due("the last", Books.lastDay().count(3), 9999);
    }

    private static void phrases() {
        Edges.says(0, "There are at most 24 phrases, numbered from 0; each has 1 to 3 words (0 to 63), one behind "
            + "the other, and a voice (0 to 3); no two have the same words.");
        LentPhrases x = new LentPhrases();
        int[][] words = {{0, -1, -1}, {0, 0, -1}, {0, 0, 0}, {63, -1, -1}, {63, 63, -1}, {63, 63, 63}, {0, 63, -1},
            {63, 0, -1}, {0, 63, 0}, {63, 0, 63}, {0, 0, 63}, {63, 0, 0}};
        for (int i = 0; i < words.length; i++) {
            Edges.due("phrase " + i, x.phrase(i % 4, words[i][0], words[i][1], words[i][2]), i);
        }
        for (int i = 0; i < words.length; i++) {
            for (int voice = 0; voice <= 3; voice++) {
                Edges.due("the words of " + i + ", voice " + voice,
                    x.phrase(voice, words[i][0], words[i][1], words[i][2]), NOT_POSSIBLE);
            }
            Edges.due("find " + i, x.find(words[i][0], words[i][1], words[i][2]), i);
        }
        for (int i = words.length; i < 24; i++) {
            Edges.due("phrase " + i, x.phrase(0, i, -1, -1), i);
        }
        Edges.due("a 25th", x.phrase(0, 24, -1, -1), LIMIT);
        Edges.due("phrases", x.count(2), 24);
    }

    private static void freeOrOnAPage() {
        Edges.says(0, "A phrase is free (at first), or on a page of a chapter.");
        LentPhrases x = Books.allPhrases();
        Edges.due("all are free", x.count(4), 24);
        for (int i = 0; i < 24; i++) {
            x.place(i, 0, i % 20);
            Edges.due("free ones", x.count(4), 23 - i);
        }
        for (int i = 0; i < 24; i++) {
            x.lift(i);
            Edges.due("free ones", x.count(4), i + 1);
        }
    }

    private static void placesOfAPage() {
        Edges.says(0, "A page has room for 3 places: of the phrases that are on it, and those that are kept for "
            + "phrases that are lent from it.");
        LentPhrases x = Books.allPhrases();
        x.client(1, 500);
        x.chapter(1, 2, 0);
        Edges.due("an empty page", x.on(0, 0, 10), 3);
        for (int i = 0; i < 3; i++) {
            Edges.due("place " + i, x.place(i, 0, 0), 2 - i);
            Edges.due("places left", x.on(0, 0, 10), 2 - i);
        }
        Edges.due("a fourth", x.place(3, 0, 0), LIMIT);
        for (int i = 0; i < 3; i++) {
            x.lend(i, 1, 0, 10);
            Edges.due("kept ones and others", x.on(0, 0, 10), 0);
            Edges.due("those that are lent to it", x.on(1, 0, 10), 2 - i);
        }
        x.place(3, 0, 1);
        Edges.due("a fourth is lent to it", x.lend(3, 1, 0, 10), LIMIT);
        Edges.due("a fourth is lent to the next", x.lend(3, 1, 1, 10), 50);
        Edges.due("a fourth on the kept places", x.place(4, 0, 0), LIMIT);
    }

    private static void keptPlaces() {
        Edges.says(0, "A page has room for 3 places: of the phrases that are on it, and those that are kept for "
            + "phrases that are lent from it.");
        LentPhrases x = Books.fullPage();
        x.pass(4);
        Edges.due("a full page, at home", x.on(0, 1, 10), 0);
        Edges.due("the lowest of it", x.on(0, 1, 0), 0);
        Edges.due("where it was", x.on(1, 0, 10), 3);
        x.lift(0);
        Edges.due("no place is kept then", x.on(0, 1, 10), 1);
        LentPhrases back = Books.fullPage();
        back.place(1, 1, 1);
        back.lift(2);
        back.lend(1, 0, 1, 2);
        Edges.due("full with one from there, and one kept", back.on(0, 1, 10), 0);
        Edges.due("place", back.place(4, 0, 1), LIMIT);
        back.buyBack(1);
        Edges.due("one has gone, one has come", back.on(0, 1, 10), 0);
        Edges.due("the one that has gone stays, without a home", back.phraseOf(1, 8), NOT_FOUND);
        back.pass(2);
        Edges.due("and is free", back.on(0, 1, 10), 1);
    }

    private static void loans() {
        Edges.says(0, "A phrase on a page (that is not lent) can be lent to a page of a chapter of another client "
            + "for 1 to 20 days: it is on that page then, and its place on the page from which it comes, its home, "
            + "is kept; the client of that chapter pays the client of the home setting 0 for each day.");
        int[] days = {1, 20};
        int[] fees = {0, 1, 99};
        for (int length : days) {
            for (int fee : fees) {
                LentPhrases x = new LentPhrases();
                x.client(0, 0);
                x.client(0, fee * length);
                x.chapter(0, 20, 0);
                x.chapter(1, 20, 0);
                x.phrase(0, 1, -1, -1);
                x.place(0, 0, 19);
                x.set(0, fee);
                String call = fee + " for " + length + " days";
                Edges.due(call, x.lend(0, 1, 0, length), fee * length);
                Edges.due(call + ", who pays", x.clientOf(1, 1), 0);
                Edges.due(call + ", who is paid", x.clientOf(0, 1), fee * length);
                Edges.due(call + ", fees so far", x.count(7), fee * length);
                Edges.due(call + ", its page", x.on(1, 0, 0), 0);
                Edges.due(call + ", its home", x.on(0, 19, 0), NOT_FOUND);
                Edges.due(call + ", its place at home", x.on(0, 19, 10), 2);
            }
        }
    }

    private static void loanDue() {
        Edges.says(0, "It is due on the day of now plus these days.");
        LentPhrases x = Books.two();
        x.lend(0, 1, 0, 1);
        Edges.due("on the day 0, for 1", x.phraseOf(0, 7), 1);
        x.pass(1);
        x.lend(0, 1, 0, 20);
        Edges.due("on the day 1, for 20", x.phraseOf(0, 7), 21);
        LentPhrases last = Books.lastDay();
        last.lend(0, 1, 0, 1);
        Edges.due("on the last day, for 1", last.phraseOf(0, 7), 10000);
        last.lend(1, 0, 0, 20);
        Edges.due("on the last day, for 20", last.phraseOf(1, 7), 10019);
    }

    private static void loanEnds() {
        Edges.says(0, "When a day begins, each lent phrase that is due then goes home: it is on its home page again.");
        for (int days = 1; days <= 20; days++) {
            LentPhrases x = Books.two();
            x.lend(0, 1, 0, days);
            if (days > 1) {
                Edges.due("pass(" + (days - 1) + ") of " + days, x.pass(days - 1), 0);
            }
            Edges.due("where it is lent, a day ahead of " + days, x.on(1, 0, 0), 0);
            Edges.due("pass(1) to " + days, x.pass(1), 1);
            Edges.due("at home", x.on(0, 1, 0), 0);
            Edges.due("where it was", x.on(1, 0, 0), NOT_FOUND);
            Edges.due("it is not lent", x.count(5), 0);
            Edges.due("it can be lent again", x.lend(0, 1, 0, 1), 5);
        }
    }

    private static void loanWithoutHome() {
        Edges.says(0, "A phrase whose home is gone (it was bought back) is free then (it is lent until then).");
        LentPhrases x = Books.homeless();
        Edges.due("pass(3)", x.pass(3), 0);
        Edges.due("it is lent", x.count(5), 1);
        Edges.due("it has no free place", x.place(0, 0, 1), NOT_POSSIBLE);
        Edges.due("pass(1)", x.pass(1), 1);
        Edges.due("it is not lent", x.count(5), 0);
        Edges.due("it is free", x.count(4), 2);
        Edges.due("its page is empty", x.on(0, 0, 10), 3);
        Edges.due("it can be placed", x.place(0, 0, 1), 2);
        LentPhrases again = Books.homeless();
        again.chapter(0, 2, 0);
        again.pass(4);
        Edges.due("a new chapter is no home", again.chapterOf(1, 4), 0);
    }

    private static void boughtBackPays() {
        Edges.says(0, "When a chapter is bought back, the writer pays its client the price times (100 less setting 1 "
            + "times the days since it was bought, but at least 0) / 100.");
        int[] lost = {0, 1, 2, 3, 50, 99, 100};
        int[][] due = {{999, 999, 999, 999}, {989, 979, 9, 0}, {979, 959, 0, 0}, {969, 939, 0, 0}, {499, 0, 0, 0},
            {9, 0, 0, 0}, {0, 0, 0, 0}};
        int[] days = {1, 2, 99, 100};
        for (int i = 0; i < lost.length; i++) {
            for (int k = 0; k < days.length; k++) {
                LentPhrases x = new LentPhrases();
                x.client(0, 999);
                x.pass(50);
                x.chapter(0, 1, 999);
                x.set(1, lost[i]);
                x.pass(Math.min(99, days[k]));
                if (days[k] == 100) {
                    x.pass(1);
                }
                String call = "lost " + lost[i] + " on each of " + days[k] + " days";
                Edges.due(call, x.buyBack(0), due[i][k]);
                Edges.due(call + ", the purse", x.clientOf(0, 1), due[i][k]);
                Edges.due(call + ", the account", x.count(6), 999 - due[i][k]);
            }
        }
        LentPhrases old = Books.lastDay();
        old.set(1, 100);
        Edges.due("on the last day, all lost", old.buyBack(0), 0);
        old.set(1, 0);
        Edges.due("on the last day, nothing lost", old.buyBack(0), 50);
    }

    private static void boughtBackFrees() {
        Edges.says(0, BOUGHT_BACK);
        LentPhrases x = Books.allPhrases();
        for (int i = 0; i < 24; i++) {
            x.place(i, 0, i / 3);
        }
        x.buyBack(0);
        Edges.due("all are free", x.count(4), 24);
        for (int i = 0; i < 24; i += 23) {
            Edges.due("chapter of " + i, x.phraseOf(i, 4), NOT_FOUND);
            Edges.due("page of " + i, x.phraseOf(i, 5), NOT_FOUND);
        }
        LentPhrases none = Books.two();
        none.buyBack(1);
        Edges.due("none of an empty one", none.count(4), 1);
        Edges.due("the other stays", none.phraseOf(0, 4), 0);
    }

    private static void boughtBackSendsHome() {
        Edges.says(0, BOUGHT_BACK);
        LentPhrases x = Books.loan();
        x.buyBack(1);
        Edges.due("at home", x.on(0, 1, 0), 0);
        Edges.due("who paid", x.clientOf(1, 1), 1000 - 20);
        Edges.due("who was paid", x.clientOf(0, 1), 900 + 20);
        Edges.due("fees so far", x.count(7), 20);
        Edges.due("how often it was lent", x.phraseOf(0, 10), 1);
        LentPhrases gone = Books.homeless();
        gone.buyBack(0);
        Edges.due("free without a home", gone.count(4), 2);
        Edges.due("not lent", gone.count(5), 0);
        Edges.due("nowhere", gone.phraseOf(0, 4), NOT_FOUND);
        Edges.due("how often it was lent", gone.phraseOf(0, 10), 1);
        LentPhrases ahead = Books.tenChapters();
        ahead.phrase(0, 1, -1, -1);
        ahead.place(0, 9, 9);
        ahead.lend(0, 0, 0, 2);
        ahead.buyBack(0);
        Edges.due("its home has another number", ahead.phraseOf(0, 4), 8);
        Edges.due("its page has not", ahead.phraseOf(0, 5), 9);
    }

    private static void boughtBackTakesHomes() {
        Edges.says(0, BOUGHT_BACK);
        LentPhrases x = Books.tenChapters();
        x.phrase(0, 1, -1, -1);
        x.phrase(0, 2, -1, -1);
        x.place(0, 4, 4);
        x.place(1, 9, 0);
        x.lend(0, 9, 9, 3);
        x.lend(1, 4, 0, 3);
        x.buyBack(4);
        Edges.due("it stays", x.phraseOf(0, 4), 8);
        Edges.due("on its page", x.phraseOf(0, 5), 9);
        Edges.due("it is due", x.phraseOf(0, 7), 3);
        Edges.due("no home", x.phraseOf(0, 8), NOT_FOUND);
        Edges.due("no page of a home", x.phraseOf(0, 9), NOT_FOUND);
        Edges.due("lent from its client", x.clientOf(0, 5), 0);
        Edges.due("the other is at home", x.phraseOf(1, 4), 8);
        Edges.due("on its page", x.phraseOf(1, 5), 0);
        Edges.due("pass(3)", x.pass(3), 1);
        Edges.due("free ones", x.count(4), 1);
    }

    private static void boughtBackIsGone() {
        Edges.says(0, "Then the chapter is gone.");
        LentPhrases x = Books.two();
        x.buyBack(1);
        Edges.due("chapters", x.count(1), 1);
        Edges.due("the last number", x.chapterOf(1, 0), INVALID);
        Edges.due("its page", x.on(1, 0, 10), INVALID);
        Edges.due("chapters of its client", x.clientOf(1, 2), 0);
        x.buyBack(0);
        Edges.due("the only one", x.chapterOf(0, 0), INVALID);
        Edges.due("chapters", x.count(1), 0);
        Edges.due("the client is there", x.clientOf(0, 2), 0);
    }

    private static void sold() {
        Edges.says(0, "When a chapter is sold to another client, that one pays its client the price that is told, "
            + "which is its price then; it is bought on this day.");
        LentPhrases x = Books.two();
        x.pass(40);
        Edges.due("ahead of it", x.chapterOf(0, 5), 0);
        x.sell(0, 1, 950);
        Edges.due("its price", x.chapterOf(0, 2), 950);
        Edges.due("its day", x.chapterOf(0, 3), 40);
        Edges.due("all of it on this day", x.chapterOf(0, 5), 950);
        Edges.due("who pays", x.clientOf(1, 1), 0);
        Edges.due("who is paid", x.clientOf(0, 1), 1850);
        Edges.due("the account", x.count(6), 150);
        x.pass(1);
        Edges.due("a day behind", x.chapterOf(0, 5), 921);
        x.sell(0, 0, 0);
        Edges.due("for nothing", x.chapterOf(0, 2), 0);
        Edges.due("nothing of it", x.buyBack(0), 0);
    }

    private static void soldEndsLoans() {
        Edges.says(0, "Phrases that are lent to it from a chapter of the new client, and those that are lent from it "
            + "to a chapter of the new client, go home at once.");
        for (int buyer = 0; buyer <= 2; buyer++) {
            LentPhrases x = new LentPhrases();
            for (int i = 0; i < 4; i++) {
                x.client(0, 999);
                x.chapter(i, 2, 0);
                x.phrase(0, i, -1, -1);
                x.place(i, i, 0);
            }
            x.phrase(0, 4, -1, -1);
            x.phrase(0, 5, -1, -1);
            x.place(4, 3, 1);
            x.place(5, 3, 1);
            x.lend(0, 3, 0, 9);
            x.lend(1, 3, 0, 9);
            x.lend(4, 0, 1, 9);
            x.lend(5, 2, 1, 9);
            int[] home = {2, 1, 1};
            Edges.due("to client " + buyer, x.sell(3, buyer, 7), home[buyer]);
            int[] chapter = {buyer == 0 ? 0 : 3, buyer == 1 ? 1 : 3, 2, 3, buyer == 0 ? 3 : 0, buyer == 2 ? 3 : 2};
            for (int i = 0; i < 6; i++) {
                Edges.due("to client " + buyer + ", chapter of " + i, x.phraseOf(i, 4), chapter[i]);
            }
            Edges.due("to client " + buyer + ", lent ones", x.count(5), 4 - home[buyer]);
            Edges.due("pass(9)", x.pass(9), 4 - home[buyer]);
        }
    }

    private static void tellsAndReaders() {
        Edges.says(0, "A phrase is a tell in a book if its voice is not that of the client.");
        for (int voice = 0; voice <= 3; voice++) {
            LentPhrases x = new LentPhrases();
            x.client(voice, 0);
            x.chapter(0, 2, 0);
            for (int i = 0; i < 4; i++) {
                x.phrase(i, i, -1, -1);
                x.place(i, 0, i / 3);
                Edges.due("voice " + voice + ", phrases to " + i, x.clientOf(0, 6), i >= voice ? i : i + 1);
            }
            Edges.says(0, "A reader knows some voices, and finds the tells whose voice is one of these.");
            Edges.due("none is known", x.tells(0, 0), 0);
            Edges.due("all are known", x.tells(0, 15), 3);
            Edges.due("the client's own", x.tells(0, 1 << voice), 0);
            Edges.due("all but the client's", x.tells(0, 15 - (1 << voice)), 3);
            Edges.says(0, "A phrase is a tell in a book if its voice is not that of the client.");
        }
    }

    private static void settings() {
        Edges.says(0, "The settings are (in parentheses: range; first value): 0 the fee of a day (0 to 99; 5), 1 "
            + "what is lost by each day, in hundredths (0 to 100; 2).");
        LentPhrases x = Checks.twoBooks();
        x.place(0, 0, 0);
        Edges.due("the first fee of a day", x.lend(0, 1, 0, 1), 5);
        x.pass(1);
        Edges.due("the first loss of a day", x.chapterOf(0, 5), 98);
        Edges.due("set(0, 100)", x.set(0, 100), INVALID);
        Edges.due("set(0, -1)", x.set(0, -1), INVALID);
        Edges.due("set(0, 99)", x.set(0, 99), 5);
        Edges.due("the greatest fee of a day", x.lend(0, 1, 0, 1), 99);
        x.pass(1);
        Edges.due("set(0, 0)", x.set(0, 0), 99);
        Edges.due("the least fee of a day", x.lend(0, 1, 0, 20), 0);
        Edges.due("set(1, 101)", x.set(1, 101), INVALID);
        Edges.due("set(1, -1)", x.set(1, -1), INVALID);
        Edges.due("set(1, 100)", x.set(1, 100), 2);
        Edges.due("the greatest loss of a day", x.chapterOf(0, 5), 0);
        Edges.due("set(1, 0)", x.set(1, 0), 100);
        Edges.due("the least loss of a day", x.chapterOf(0, 5), 100);
    }

    private static void text() {
        Edges.says(0, "There is a text of at most 60 characters, initially empty: orders, each followed by \";\", of "
            + "one letter and numbers of one or two digits with \",\" between two, 0 ahead allowed: \"p\" a voice "
            + "and one, two or three words (a phrase), \"o\" a phrase, a chapter, a page (placed), \"l\" a phrase, a "
            + "chapter, a page, days (lent), \"f\" a phrase (lifted), \"d\" days.");
        LentPhrases x = new LentPhrases();
        Edges.due("at first", x.count(9), 0);
        for (int i = 1; i <= 60; i++) {
            x.type(i % 3 == 1 ? 'd' : i % 3 == 2 ? '9' : ';');
            Edges.due("the length", x.count(9), i);
        }
        Edges.due("the 61st", x.type('d'), LIMIT);
        Edges.due("play()", x.play(), 20);
        Edges.due("the day", x.count(3), 180);
        LentPhrases allOrders = Checks.twoBooks();
        Checks.type(allOrders, "p03,63,63,63;o02,00,01;l02,01,01,20;d19;p00,00;o03,00,00;f3;");
        Edges.due("sixty signs of all orders", allOrders.count(9), 60);
        Edges.due("play()", allOrders.play(), 7);
        Edges.due("days", allOrders.count(3), 19);
    }

    private static int change(LentPhrases x, int change) {
        switch (change) {
            case 0: return x.client(3, 3);
            case 1: return x.chapter(1, 3, 3);
            case 2: return x.phrase(3, 3, 3, 3);
            case 3: return x.place(1, 1, 1);
            case 4: return x.lift(0);
            case 5: return x.lend(0, 1, 0, 3);
            case 6: return x.buyBack(0);
            case 7: return x.sell(0, 1, 3);
            case 8: return x.pass(4);
            case 9: return x.set(0, 17);
            case 10: return x.restore();
            default: return x.play();
        }
    }

    private static void changes() {
        Edges.says(0, "The changes are the calls of client, chapter, phrase, place, lift, lend, buyBack, sell, pass, "
            + "set, restore and play that return no error.");
        for (int i = 0; i < CALLS.length; i++) {
            LentPhrases x = Books.two();
            x.undo();
            String before = Checks.all(x);
            Edges.due("states ahead of " + CALLS[i], x.count(8), 3);
            Checks.holds(CALLS[i] + " returns no error", change(x, i) >= 0);
            Edges.due("states behind " + CALLS[i], x.count(8), 4);
            x.undo();
            Edges.due("states behind its undo()", x.count(8), 3);
            Edges.same("undo() of " + CALLS[i], Checks.all(x), before);
        }
    }

    private static void noChanges() {
        Edges.says(0, "The changes are the calls of client, chapter, phrase, place, lift, lend, buyBack, sell, pass, "
            + "set, restore and play that return no error.");
        LentPhrases x = Books.loan();
        x.undo();
        String before = Checks.all(x);
        int[] answers = {x.clientOf(0, 1), x.chapterOf(0, 5), x.phraseOf(0, 4), x.find(7, -1, -1), x.on(1, 0, 0),
            x.tells(1, 15), x.alike(0), x.count(8), x.coming(4, 1), x.best(1), x.fault(0), x.keep(), x.clearText(),
            x.type('d'), x.type('1'), x.fault(1)};
        int[] due = {920, 100, 1, 0, 0, 1, 0, 3, 0, 0, NOT_FOUND, 2, 9, 1, 2, 1};
        for (int i = 0; i < due.length; i++) {
            Edges.due("call " + i, answers[i], due[i]);
        }
        Edges.due("states behind queries, keep(), type() and clearText()", x.count(8), 3);
        Edges.same("what they left", Checks.all(x), before);
        x.undo();
        Edges.due("states behind undo()", x.count(8), 2);
    }

    private static void history() {
        Edges.says(0, "A history of at most 4 states is kept: each change records everything before it but the text "
            + "and the snapshot, and if there are 5 states then, the oldest one is dropped.");
        String[] before = new String[7];
        LentPhrases x = new LentPhrases();
        for (int i = 0; i < before.length; i++) {
            before[i] = Checks.all(x);
            if (i < 6) {
                x.set(1, 10 + i);
                Edges.due("states behind " + (i + 1), x.count(8), Math.min(4, i + 1));
            }
        }
        for (int i = 5; i >= 2; i--) {
            Edges.due("undo() of " + i, x.undo(), i - 2);
            Edges.same("what was before " + i, Checks.all(x), before[i]);
        }
        Edges.due("the oldest two are dropped", x.undo(), NOT_POSSIBLE);
        Edges.same("what was before 2", Checks.all(x), before[2]);
    }

    private static void severalErrors() {
        Edges.says(0, "If several errors apply to a call, INVALID_ARGUMENT is returned rather than NOT_POSSIBLE, "
            + "NOT_POSSIBLE rather than LIMIT_REACHED, and LIMIT_REACHED rather than NOT_FOUND.");
        Edges.due("client: voice, limit", Books.fiveClients().client(4, 0), INVALID);
        Edges.due("client: purse, limit", Books.fiveClients().client(0, 10000), INVALID);
        Edges.due("chapter: pages, purse, limit", Books.tenChapters().chapter(0, 0, 999), INVALID);
        Edges.due("chapter: price, limit", Books.tenChapters().chapter(0, 1, 1000), INVALID);
        Edges.due("chapter: client, limit", Books.tenChapters().chapter(2, 1, 0), INVALID);
        Edges.due("chapter: purse, limit", Books.tenChapters().chapter(0, 1, 999), NOT_POSSIBLE);
        Edges.due("chapter: purse, pages", Books.fiveClients().chapter(0, 21, 1), INVALID);
        Edges.due("phrase: voice, words, limit", Books.allPhrases().phrase(-1, 0, -1, -1), INVALID);
        Edges.due("phrase: third word, limit", Books.allPhrases().phrase(0, 0, -1, 0), INVALID);
        Edges.due("phrase: words, limit", Books.allPhrases().phrase(0, 0, -1, -1), NOT_POSSIBLE);
        Edges.due("place: page, not free", Books.two().place(0, 0, 2), INVALID);
        Edges.due("place: chapter, not free", Books.two().place(0, 2, 0), INVALID);
        Edges.due("place: not free, limit", Books.fullPage().place(2, 0, 1), NOT_POSSIBLE);
        Edges.due("place: lent, limit", Books.fullPage().place(0, 0, 1), NOT_POSSIBLE);
        Edges.due("lend: days, free", Books.two().lend(1, 1, 0, 0), INVALID);
        Edges.due("lend: page, lent", Books.loan().lend(0, 1, 2, 1), INVALID);
        Edges.due("lend: chapter, free", Books.two().lend(1, 2, 0, 1), INVALID);
        Edges.due("lend: days, same client, limit", Books.fullPage().lend(2, 0, 1, 21), INVALID);
        Edges.due("lend: free, limit", Books.fullPage().lend(1, 0, 1, 1), NOT_POSSIBLE);
        Edges.due("lend: lent, limit", Books.fullPage().lend(0, 0, 1, 1), NOT_POSSIBLE);
        Edges.due("lend: same client, limit", Books.fullPage().lend(3, 0, 1, 1), NOT_POSSIBLE);
        Edges.due("sell: price, same client", Books.two().sell(0, 0, 1000), INVALID);
        Edges.due("sell: chapter, purse", Books.two().sell(2, 1, 999), INVALID);
        Edges.due("sell: same client, purse", Books.tenChapters().sell(0, 0, 999), NOT_POSSIBLE);
        Edges.due("pass: days, limit", Books.lastDay().pass(100), INVALID);
        Edges.due("on: page, index", Books.two().on(0, 2, 9), INVALID);
        Edges.due("alike: phrase, free", Books.two().alike(2), INVALID);
        Edges.due("best: what, no chapter", Books.fresh().best(2), INVALID);
        Edges.due("find: third word, none", Books.fresh().find(0, -1, 0), INVALID);
        Edges.due("phraseOf: what, free", Books.two().phraseOf(1, 11), INVALID);
        Edges.due("type: character, limit", Books.fullText().type(31), INVALID);
        Edges.due("fault: what, none", Books.fresh().fault(3), INVALID);
    }

    private static void errorsChangeNothing() {
        Edges.says(0, "A call that returns an error changes nothing.");
        Edges.refused(Books::fullPage, "all that is refused, one behind the other", refusals(), NOT_FOUND);
    }

    /** The last of them finds nothing. */
    private static ToIntFunction<LentPhrases> refusals() {
        return x -> {
            Edges.due("client", x.client(0, 10000), INVALID);
            Edges.due("chapter", x.chapter(2, 1, 1), INVALID);
            Edges.due("chapter", x.chapter(0, 1, 921), NOT_POSSIBLE);
            Edges.due("phrase", x.phrase(0, 64, 1, 1), INVALID);
            Edges.due("phrase", x.phrase(0, 7, 8, -1), NOT_POSSIBLE);
            Edges.due("place", x.place(1, 0, 2), INVALID);
            Edges.due("place", x.place(0, 1, 1), NOT_POSSIBLE);
            Edges.due("place", x.place(1, 0, 1), LIMIT);
            Edges.due("lift", x.lift(5), INVALID);
            Edges.due("lift", x.lift(0), NOT_POSSIBLE);
            Edges.due("lend", x.lend(2, 1, 0, 21), INVALID);
            Edges.due("lend", x.lend(0, 1, 1, 2), NOT_POSSIBLE);
            Edges.due("buyBack", x.buyBack(2), INVALID);
            Edges.due("sell", x.sell(0, 2, 1), INVALID);
            Edges.due("sell", x.sell(0, 1, 931), NOT_POSSIBLE);
            Edges.due("pass", x.pass(0), INVALID);
            Edges.due("set", x.set(1, 101), INVALID);
            Edges.due("type", x.type(127), INVALID);
            Edges.due("fault", x.fault(3), INVALID);
            Edges.due("coming", x.coming(0, 0), INVALID);
            Edges.due("best", x.best(2), INVALID);
            return x.on(0, 1, 2);
        };
    }

    private static void noSuchNumber() {
        Edges.says(0, "If there is no client, chapter, page or phrase with a certain number, this is "
            + "INVALID_ARGUMENT.");
        int[] none = {-1, 5, Integer.MAX_VALUE, Integer.MIN_VALUE};
        LentPhrases x = Books.fullPage();
        for (int number : none) {
            Edges.due("chapter(" + number + ", 1, 0)", x.chapter(number, 1, 0), INVALID);
            Edges.due("sell(0, " + number + ", 0)", x.sell(0, number, 0), INVALID);
            Edges.due("clientOf(" + number + ", 0)", x.clientOf(number, 0), INVALID);
            Edges.due("tells(" + number + ", 0)", x.tells(number, 0), INVALID);
            Edges.due("place(1, " + number + ", 0)", x.place(1, number, 0), INVALID);
            Edges.due("lend(2, " + number + ", 0, 1)", x.lend(2, number, 0, 1), INVALID);
            Edges.due("buyBack(" + number + ")", x.buyBack(number), INVALID);
            Edges.due("sell(" + number + ", 1, 0)", x.sell(number, 1, 0), INVALID);
            Edges.due("chapterOf(" + number + ", 0)", x.chapterOf(number, 0), INVALID);
            Edges.due("on(" + number + ", 0, 0)", x.on(number, 0, 0), INVALID);
            Edges.due("place(1, 0, " + number + ")", x.place(1, 0, number), INVALID);
            Edges.due("lend(2, 1, " + number + ", 1)", x.lend(2, 1, number, 1), INVALID);
            Edges.due("on(0, " + number + ", 0)", x.on(0, number, 0), INVALID);
            Edges.due("place(" + number + ", 0, 0)", x.place(number, 0, 0), INVALID);
            Edges.due("lift(" + number + ")", x.lift(number), INVALID);
            Edges.due("lend(" + number + ", 1, 0, 1)", x.lend(number, 1, 0, 1), INVALID);
            Edges.due("phraseOf(" + number + ", 0)", x.phraseOf(number, 0), INVALID);
            Edges.due("alike(" + number + ")", x.alike(number), INVALID);
        }
    }
}
