/** Objects in states that boundary cases begin with; all but the new one have a history, a snapshot and a text. */
final class Books {
    private Books() {
    }

    private static LentPhrases keptAndTyped(LentPhrases x) {
        x.keep();
        x.set(1, 3);
        Checks.type(x, "d1;p0,60;");
        return x;
    }

    /** Clients 0 and 1 with a chapter of two pages each; phrase 0 on page 1 of chapter 0, phrase 1 free. */
    static LentPhrases two() {
        LentPhrases x = Checks.twoBooks();
        x.place(0, 0, 1);
        return keptAndTyped(x);
    }

    /** The same with phrase 0 lent to page 0 of chapter 1 until the day 4. */
    static LentPhrases loan() {
        return keptAndTyped(Checks.oneLoan());
    }

    /**
     * Phrases 0 (voice 0), 1 (voice 1) and 2 (voice 2) lent from page 0 of chapter 0 to page 0 of chapter 1, for 1, 10
     * and 20 days.
     */
    static LentPhrases threeLoans() {
        LentPhrases x = Checks.twoBooks();
        x.phrase(2, 9, -1, -1);
        int[] days = {1, 10, 20};
        for (int i = 0; i < 3; i++) {
            x.place(i, 0, 0);
            x.lend(i, 1, 0, days[i]);
        }
        return keptAndTyped(x);
    }

    /** The loan with chapter 0 bought back, so that phrase 0 is on page 0 of what is chapter 0 now, without a home. */
    static LentPhrases homeless() {
        LentPhrases x = Checks.oneLoan();
        x.buyBack(0);
        return keptAndTyped(x);
    }

    /** The loan, and page 1 of chapter 0 full: with phrases 2 and 3 and the kept place; phrases 1 and 4 are free. */
    static LentPhrases fullPage() {
        LentPhrases x = Checks.oneLoan();
        for (int i = 0; i < 3; i++) {
            x.phrase(2, i, -1, -1);
        }
        x.place(2, 0, 1);
        x.place(3, 0, 1);
        return keptAndTyped(x);
    }

    /** Purses of 0, 10, 20, 30 and 40. */
    static LentPhrases fiveClients() {
        LentPhrases x = new LentPhrases();
        for (int i = 0; i < 5; i++) {
            x.client(i % 4, 10 * i);
        }
        return keptAndTyped(x);
    }

    /** Chapter i has 1 + i pages and the price i; the even ones are client 0's, the others client 1's. */
    static LentPhrases tenChapters() {
        LentPhrases x = new LentPhrases();
        x.client(0, 45);
        x.client(1, 55);
        for (int i = 0; i < 10; i++) {
            x.chapter(i % 2, 1 + i, i);
        }
        return keptAndTyped(x);
    }

    /** Phrase i of the one word i. Twenty-four, all free. */
    static LentPhrases allPhrases() {
        LentPhrases x = new LentPhrases();
        x.client(0, 500);
        x.chapter(0, 20, 0);
        for (int i = 0; i < 24; i++) {
            x.phrase(i % 4, i, -1, -1);
        }
        return keptAndTyped(x);
    }

    /** The day 9999, phrase 0 on page 1 of chapter 0, phrase 1 on page 0 of chapter 1. */
    static LentPhrases lastDay() {
        LentPhrases x = Checks.twoBooks();
        x.place(0, 0, 1);
        x.place(1, 1, 0);
        for (int i = 0; i < 101; i++) {
            x.pass(99);
        }
        return keptAndTyped(x);
    }

    /** A text of sixty signs, twenty orders. */
    static LentPhrases fullText() {
        LentPhrases x = Books.two();
        x.clearText();
        for (int i = 0; i < 20; i++) {
            Checks.type(x, "d1;");
        }
        return x;
    }

    /** Neither history nor snapshot nor text. */
    static LentPhrases fresh() {
        return new LentPhrases();
    }
}
