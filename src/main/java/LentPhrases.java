/** Books that one writer writes for several clients. What each call promises stands in DOC.md. */
public final class LentPhrases {
    public static final int INVALID_ARGUMENT = -100001;
    public static final int NOT_POSSIBLE = -100002;
    public static final int LIMIT_REACHED = -100003;
    public static final int NOT_FOUND = -100004;

    private static final int NONE = -1;
    private static final int ALL_VOICES = 15;
    private static final int PLACES_LEFT = 10;

    private final State now = new State();
    private final State trial = new State();
    private final State snapshot = new State();
    private final History history = new History();
    private final Text text = new Text();
    private final Reading reading = new Reading();
    private boolean kept;

    public LentPhrases() {
    }

    // ---- clients, chapters, phrases

    public int client(int voice, int purse) {
        return settle(rehearsal().addClient(voice, purse));
    }

    public int chapter(int client, int pages, int price) {
        return settle(rehearsal().addChapter(client, pages, price));
    }

    public int phrase(int voice, int one, int two, int three) {
        return settle(rehearsal().addPhrase(voice, one, two, three));
    }

    // ---- places, loans

    public int place(int phrase, int chapter, int page) {
        return settle(rehearsal().placePhrase(phrase, chapter, page));
    }

    public int lift(int phrase) {
        return settle(rehearsal().liftPhrase(phrase));
    }

    public int lend(int phrase, int chapter, int page, int days) {
        return settle(rehearsal().lendPhrase(phrase, chapter, page, days));
    }

    // ---- chapters bought back and sold, days

    public int buyBack(int chapter) {
        return settle(rehearsal().takeBack(chapter));
    }

    public int sell(int chapter, int client, int price) {
        return settle(rehearsal().sellChapter(chapter, client, price));
    }

    public int pass(int days) {
        return settle(rehearsal().passDays(days));
    }

    public int set(int what, int value) {
        return settle(rehearsal().changeSetting(what, value));
    }

    // ---- what there is

    public int clientOf(int client, int what) {
        Client asked = now.clientAt(client);
        if (asked == null) {
            return INVALID_ARGUMENT;
        }
        switch (what) {
            case 0: return asked.voice;
            case 1: return asked.purse;
            case 2: return now.chaptersOf(client);
            case 3: return now.phrasesIn(client);
            case 4: return now.lentTo(client);
            case 5: return now.lentFrom(client);
            case 6: return now.tellsIn(client, ALL_VOICES);
            default: return INVALID_ARGUMENT;
        }
    }

    public int chapterOf(int chapter, int what) {
        Chapter asked = now.chapterAt(chapter);
        if (asked == null) {
            return INVALID_ARGUMENT;
        }
        switch (what) {
            case 0: return asked.client;
            case 1: return asked.pages;
            case 2: return asked.price;
            case 3: return asked.bought;
            case 4: return now.phrasesOn(chapter);
            case 5: return now.worthOf(asked);
            default: return INVALID_ARGUMENT;
        }
    }

    public int phraseOf(int phrase, int what) {
        Phrase asked = now.phraseAt(phrase);
        if (asked == null || !within(what, 0, 10)) {
            return INVALID_ARGUMENT;
        }
        int value = now.detailOf(asked, what);
        return value == NONE ? NOT_FOUND : value;
    }

    public int find(int one, int two, int three) {
        if (!areWords(one, two, three)) {
            return INVALID_ARGUMENT;
        }
        int number = now.numberOf(one, two, three);
        return number == NONE ? NOT_FOUND : number;
    }

    public int on(int chapter, int page, int index) {
        if (!now.hasPage(chapter, page) || !within(index, 0, PLACES_LEFT)) {
            return INVALID_ARGUMENT;
        }
        if (index == PLACES_LEFT) {
            return now.placesLeft(chapter, page);
        }
        int number = now.phraseOnPage(chapter, page, index);
        return number == NONE ? NOT_FOUND : number;
    }

    public int tells(int client, int voices) {
        if (now.clientAt(client) == null || !within(voices, 0, ALL_VOICES)) {
            return INVALID_ARGUMENT;
        }
        return now.tellsIn(client, voices);
    }

    public int alike(int phrase) {
        Phrase asked = now.phraseAt(phrase);
        if (asked == null) {
            return INVALID_ARGUMENT;
        }
        return asked.isFree() ? NOT_POSSIBLE : now.othersLike(phrase);
    }

    public int count(int what) {
        switch (what) {
            case 0: return now.clientCount;
            case 1: return now.chapterCount;
            case 2: return now.phraseCount;
            case 3: return now.day;
            case 4: return now.freePhrases();
            case 5: return now.lentPhrases();
            case 6: return now.account;
            case 7: return now.fees;
            case 8: return history.size;
            case 9: return text.length;
            case 10: return kept ? 1 : 0;
            case 11: return now.firstWords();
            case 20: return now.feeOfDay;
            case 21: return now.lossOfDay;
            default: return INVALID_ARGUMENT;
        }
    }

    // ---- what would be

    public int coming(int days, int what) {
        if (!State.isPassing(days) || !within(what, 0, 1)) {
            return INVALID_ARGUMENT;
        }
        // Not passDays(): only pass() is bound to a last day.
        State then = rehearsal();
        int gone = then.sendHomeUntil(then.day + days);
        return what == 0 ? gone : then.tellsInAll();
    }

    public int best(int what) {
        if (!within(what, 0, 1)) {
            return INVALID_ARGUMENT;
        }
        int chapter = NONE;
        int fewest = 0;
        for (int i = 0; i < now.chapterCount; i++) {
            int left = tellsWithout(i);
            if (chapter == NONE || left < fewest) {
                chapter = i;
                fewest = left;
            }
        }
        if (chapter == NONE) {
            return NOT_FOUND;
        }
        return what == 0 ? chapter : fewest;
    }

    private int tellsWithout(int chapter) {
        State then = rehearsal();
        then.takeBack(chapter);
        return then.tellsInAll();
    }

    // ---- snapshot, undo

    public int keep() {
        snapshot.copyFrom(now);
        kept = true;
        return snapshot.phraseCount;
    }

    public int restore() {
        if (!kept) {
            return NOT_POSSIBLE;
        }
        history.push(now);
        now.copyFrom(snapshot);
        return now.phraseCount;
    }

    public int undo() {
        return history.popInto(now) ? history.size : NOT_POSSIBLE;
    }

    // ---- texts

    public int type(int character) {
        return text.append(character);
    }

    public int clearText() {
        return text.empty();
    }

    public int fault(int what) {
        if (!within(what, 0, 2)) {
            return INVALID_ARGUMENT;
        }
        reading.rehearse(text, rehearsal());
        if (!reading.hasFault()) {
            return NOT_FOUND;
        }
        switch (what) {
            case 0: return reading.position;
            case 1: return reading.reason;
            default: return reading.cause;
        }
    }

    public int play() {
        reading.rehearse(text, rehearsal());
        return settle(reading.hasFault() ? NOT_POSSIBLE : reading.orders);
    }

    /** Changes are tried on a copy, so that one that is refused has changed nothing. */
    private State rehearsal() {
        trial.copyFrom(now);
        return trial;
    }

    /** Every answer of a change is 0 or more, so what is below tells an error. */
    private int settle(int answer) {
        if (answer >= 0) {
            history.push(now);
            now.copyFrom(trial);
        }
        return answer;
    }

    private static boolean within(int value, int lowest, int highest) {
        return value >= lowest && value <= highest;
    }

    private static boolean isVoice(int voice) {
        return within(voice, 0, 3);
    }

    private static boolean areWords(int one, int two, int three) {
        return within(one, 0, 63) && within(two, NONE, 63) && within(three, NONE, 63)
            && (two != NONE || three == NONE);
    }

    private static final class Client {
        int voice;
        int purse;

        void copyFrom(Client other) {
            voice = other.voice;
            purse = other.purse;
        }
    }

    private static final class Chapter {
        int client;
        int pages;
        int price;
        int bought;

        void copyFrom(Chapter other) {
            client = other.client;
            pages = other.pages;
            price = other.price;
            bought = other.bought;
        }
    }

    /** Free: no chapter and no page. Not lent: no due day. Home gone or not lent: no home and no home page. */
    private static final class Phrase {
        int voice;
        int one;
        int two;
        int three;
        int chapter;
        int page;
        int due;
        int home;
        int homePage;
        int timesLent;

        void begin(int itsVoice, int first, int second, int third) {
            voice = itsVoice;
            one = first;
            two = second;
            three = third;
            chapter = NONE;
            page = NONE;
            due = NONE;
            loseHome();
            timesLent = 0;
        }

        void copyFrom(Phrase other) {
            voice = other.voice;
            one = other.one;
            two = other.two;
            three = other.three;
            chapter = other.chapter;
            page = other.page;
            due = other.due;
            home = other.home;
            homePage = other.homePage;
            timesLent = other.timesLent;
        }

        boolean isFree() {
            return chapter == NONE;
        }

        boolean isLent() {
            return due != NONE;
        }

        boolean isOn(int someChapter, int somePage) {
            return chapter == someChapter && page == somePage;
        }

        boolean isKeptOn(int someChapter, int somePage) {
            return home == someChapter && homePage == somePage;
        }

        boolean hasWords(int first, int second, int third) {
            return one == first && two == second && three == third;
        }

        void goOut(int toChapter, int toPage, int dueDay) {
            home = chapter;
            homePage = page;
            chapter = toChapter;
            page = toPage;
            due = dueDay;
            timesLent++;
        }

        /** Without a home, be it gone or never left, a phrase is free by this. */
        void goHome() {
            chapter = home;
            page = homePage;
            due = NONE;
            loseHome();
        }

        void loseHome() {
            home = NONE;
            homePage = NONE;
        }

        void closeGap(int goneChapter) {
            if (chapter > goneChapter) {
                chapter--;
            }
            if (home > goneChapter) {
                home--;
            }
        }
    }

    /** All that a change can change. Its rows are made once and used again; those behind a count are unused. */
    private static final class State {
        private static final int MOST_CLIENTS = 5;
        private static final int MOST_CHAPTERS = 10;
        private static final int MOST_PHRASES = 24;
        private static final int PLACES = 3;
        private static final int LAST_DAY = 9999;
        private static final int WRITER = NONE;

        private final Client[] clients = new Client[MOST_CLIENTS];
        private final Chapter[] chapters = new Chapter[MOST_CHAPTERS];
        private final Phrase[] phrases = new Phrase[MOST_PHRASES];
        int clientCount = 0;
        int chapterCount = 0;
        int phraseCount = 0;
        int day = 0;
        int account = 0;
        int fees = 0;
        int feeOfDay = 5;
        int lossOfDay = 2;

        State() {
            for (int i = 0; i < MOST_CLIENTS; i++) {
                clients[i] = new Client();
            }
            for (int i = 0; i < MOST_CHAPTERS; i++) {
                chapters[i] = new Chapter();
            }
            for (int i = 0; i < MOST_PHRASES; i++) {
                phrases[i] = new Phrase();
            }
        }

        void copyFrom(State other) {
            clientCount = other.clientCount;
            chapterCount = other.chapterCount;
            phraseCount = other.phraseCount;
            day = other.day;
            account = other.account;
            fees = other.fees;
            feeOfDay = other.feeOfDay;
            lossOfDay = other.lossOfDay;
            for (int i = 0; i < clientCount; i++) {
                clients[i].copyFrom(other.clients[i]);
            }
            for (int i = 0; i < chapterCount; i++) {
                chapters[i].copyFrom(other.chapters[i]);
            }
            for (int i = 0; i < phraseCount; i++) {
                phrases[i].copyFrom(other.phrases[i]);
            }
        }

        // ---- rows by their numbers

        Client clientAt(int number) {
            return number >= 0 && number < clientCount ? clients[number] : null;
        }

        Chapter chapterAt(int number) {
            return number >= 0 && number < chapterCount ? chapters[number] : null;
        }

        Phrase phraseAt(int number) {
            return number >= 0 && number < phraseCount ? phrases[number] : null;
        }

        boolean hasPage(int chapter, int page) {
            Chapter asked = chapterAt(chapter);
            return asked != null && page >= 0 && page < asked.pages;
        }

        /** The client in whose book a chapter is, or NONE if there is no such chapter. */
        int holderOf(int chapter) {
            Chapter asked = chapterAt(chapter);
            return asked == null ? NONE : asked.client;
        }

        // ---- money

        private int purseOf(int client) {
            Client asked = clientAt(client);
            return asked == null ? 0 : asked.purse;
        }

        private void pay(int from, int to, int amount) {
            receive(from, -amount);
            receive(to, amount);
        }

        /** The writer's account can be below 0; purses are looked at before they pay. */
        private void receive(int party, int amount) {
            Client client = clientAt(party);
            if (client == null) {
                account += amount;
            } else {
                client.purse += amount;
            }
        }

        int worthOf(Chapter chapter) {
            int hundredths = Math.max(0, 100 - lossOfDay * (day - chapter.bought));
            return chapter.price * hundredths / 100;
        }

        // ---- changes: each answers as its call does, and changes nothing by an error

        int addClient(int voice, int purse) {
            if (!isVoice(voice) || !within(purse, 0, 9999)) {
                return INVALID_ARGUMENT;
            }
            if (clientCount >= MOST_CLIENTS) {
                return LIMIT_REACHED;
            }
            Client added = clients[clientCount];
            added.voice = voice;
            added.purse = purse;
            clientCount++;
            return clientCount - 1;
        }

        int addChapter(int client, int pages, int price) {
            if (clientAt(client) == null || !within(pages, 1, 20) || !isPrice(price)) {
                return INVALID_ARGUMENT;
            }
            if (purseOf(client) < price) {
                return NOT_POSSIBLE;
            }
            if (chapterCount >= MOST_CHAPTERS) {
                return LIMIT_REACHED;
            }
            Chapter added = chapters[chapterCount];
            added.client = client;
            added.pages = pages;
            added.price = price;
            added.bought = day;
            chapterCount++;
            pay(client, WRITER, price);
            return chapterCount - 1;
        }

        int addPhrase(int voice, int one, int two, int three) {
            if (!isVoice(voice) || !areWords(one, two, three)) {
                return INVALID_ARGUMENT;
            }
            if (numberOf(one, two, three) != NONE) {
                return NOT_POSSIBLE;
            }
            if (phraseCount >= MOST_PHRASES) {
                return LIMIT_REACHED;
            }
            phrases[phraseCount].begin(voice, one, two, three);
            phraseCount++;
            return phraseCount - 1;
        }

        int placePhrase(int number, int chapter, int page) {
            Phrase phrase = phraseAt(number);
            if (phrase == null || !hasPage(chapter, page)) {
                return INVALID_ARGUMENT;
            }
            if (!phrase.isFree()) {
                return NOT_POSSIBLE;
            }
            if (placesLeft(chapter, page) <= 0) {
                return LIMIT_REACHED;
            }
            phrase.chapter = chapter;
            phrase.page = page;
            return placesLeft(chapter, page);
        }

        int liftPhrase(int number) {
            Phrase phrase = phraseAt(number);
            if (phrase == null) {
                return INVALID_ARGUMENT;
            }
            if (phrase.isFree() || phrase.isLent()) {
                return NOT_POSSIBLE;
            }
            int left = phrase.chapter;
            phrase.goHome();
            return left;
        }

        int lendPhrase(int number, int chapter, int page, int days) {
            Phrase phrase = phraseAt(number);
            if (phrase == null || !hasPage(chapter, page) || !within(days, 1, 20)) {
                return INVALID_ARGUMENT;
            }
            int lender = holderOf(phrase.chapter);
            int borrower = holderOf(chapter);
            int fee = feeOfDay * days;
            if (phrase.isFree() || phrase.isLent() || lender == borrower || purseOf(borrower) < fee) {
                return NOT_POSSIBLE;
            }
            if (placesLeft(chapter, page) <= 0) {
                return LIMIT_REACHED;
            }
            phrase.goOut(chapter, page, day + days);
            pay(borrower, lender, fee);
            fees += fee;
            return fee;
        }

        int takeBack(int number) {
            Chapter chapter = chapterAt(number);
            if (chapter == null) {
                return INVALID_ARGUMENT;
            }
            int paid = worthOf(chapter);
            pay(WRITER, chapter.client, paid);
            for (int i = 0; i < phraseCount; i++) {
                clearOut(phrases[i], number);
            }
            for (int i = number + 1; i < chapterCount; i++) {
                chapters[i - 1].copyFrom(chapters[i]);
            }
            chapterCount--;
            return paid;
        }

        private void clearOut(Phrase phrase, int chapter) {
            if (phrase.chapter == chapter) {
                phrase.goHome();
            } else if (phrase.home == chapter) {
                phrase.loseHome();
            }
            phrase.closeGap(chapter);
        }

        int sellChapter(int number, int client, int price) {
            Chapter chapter = chapterAt(number);
            if (chapter == null || clientAt(client) == null || !isPrice(price)) {
                return INVALID_ARGUMENT;
            }
            if (chapter.client == client || purseOf(client) < price) {
                return NOT_POSSIBLE;
            }
            pay(client, chapter.client, price);
            chapter.client = client;
            chapter.price = price;
            chapter.bought = day;
            return endLoansAtHome();
        }

        /** A sale can bring a loan's two chapters into one book, and nothing else can. */
        private int endLoansAtHome() {
            int ended = 0;
            for (int i = 0; i < phraseCount; i++) {
                Phrase phrase = phrases[i];
                if (phrase.home != NONE && holderOf(phrase.home) == holderOf(phrase.chapter)) {
                    phrase.goHome();
                    ended++;
                }
            }
            return ended;
        }

        int passDays(int days) {
            if (!isPassing(days)) {
                return INVALID_ARGUMENT;
            }
            if (day + days > LAST_DAY) {
                return LIMIT_REACHED;
            }
            day += days;
            return sendHomeUntil(day);
        }

        int sendHomeUntil(int lastDay) {
            int sent = 0;
            for (int i = 0; i < phraseCount; i++) {
                Phrase phrase = phrases[i];
                if (phrase.isLent() && phrase.due <= lastDay) {
                    phrase.goHome();
                    sent++;
                }
            }
            return sent;
        }

        int changeSetting(int what, int value) {
            if (what == 0 && within(value, 0, 99)) {
                int was = feeOfDay;
                feeOfDay = value;
                return was;
            }
            if (what == 1 && within(value, 0, 100)) {
                int was = lossOfDay;
                lossOfDay = value;
                return was;
            }
            return INVALID_ARGUMENT;
        }

        static boolean isPassing(int days) {
            return within(days, 1, 99);
        }

        private static boolean isPrice(int price) {
            return within(price, 0, 999);
        }

        // ---- what there is

        int placesLeft(int chapter, int page) {
            int left = PLACES;
            for (int i = 0; i < phraseCount; i++) {
                if (phrases[i].isOn(chapter, page) || phrases[i].isKeptOn(chapter, page)) {
                    left--;
                }
            }
            return left;
        }

        int phraseOnPage(int chapter, int page, int index) {
            int ahead = 0;
            for (int i = 0; i < phraseCount; i++) {
                if (phrases[i].isOn(chapter, page)) {
                    if (ahead == index) {
                        return i;
                    }
                    ahead++;
                }
            }
            return NONE;
        }

        int numberOf(int one, int two, int three) {
            for (int i = 0; i < phraseCount; i++) {
                if (phrases[i].hasWords(one, two, three)) {
                    return i;
                }
            }
            return NONE;
        }

        int detailOf(Phrase phrase, int what) {
            switch (what) {
                case 0: return phrase.voice;
                case 1: return phrase.one;
                case 2: return phrase.two;
                case 3: return phrase.three;
                case 4: return phrase.chapter;
                case 5: return phrase.page;
                case 6: return holderOf(phrase.chapter);
                case 7: return phrase.due;
                case 8: return phrase.home;
                case 9: return phrase.homePage;
                case 10: return phrase.timesLent;
                default: return NONE;
            }
        }

        int chaptersOf(int client) {
            int found = 0;
            for (int i = 0; i < chapterCount; i++) {
                if (chapters[i].client == client) {
                    found++;
                }
            }
            return found;
        }

        int phrasesOn(int chapter) {
            int found = 0;
            for (int i = 0; i < phraseCount; i++) {
                if (phrases[i].chapter == chapter) {
                    found++;
                }
            }
            return found;
        }

        int phrasesIn(int client) {
            int found = 0;
            for (int i = 0; i < phraseCount; i++) {
                if (holderOf(phrases[i].chapter) == client) {
                    found++;
                }
            }
            return found;
        }

        int lentTo(int client) {
            int found = 0;
            for (int i = 0; i < phraseCount; i++) {
                if (phrases[i].isLent() && holderOf(phrases[i].chapter) == client) {
                    found++;
                }
            }
            return found;
        }

        int lentFrom(int client) {
            int found = 0;
            for (int i = 0; i < phraseCount; i++) {
                if (holderOf(phrases[i].home) == client) {
                    found++;
                }
            }
            return found;
        }

        int tellsIn(int client, int voices) {
            int found = 0;
            for (int i = 0; i < phraseCount; i++) {
                boolean known = (voices >> phrases[i].voice & 1) == 1;
                if (known && isTell(phrases[i]) && holderOf(phrases[i].chapter) == client) {
                    found++;
                }
            }
            return found;
        }

        int tellsInAll() {
            int found = 0;
            for (int i = 0; i < phraseCount; i++) {
                if (isTell(phrases[i])) {
                    found++;
                }
            }
            return found;
        }

        /** A free phrase is in no book, so it is no tell. */
        private boolean isTell(Phrase phrase) {
            Client holder = clientAt(holderOf(phrase.chapter));
            return holder != null && holder.voice != phrase.voice;
        }

        int othersLike(int number) {
            Phrase asked = phraseAt(number);
            if (asked == null) {
                return 0;
            }
            int book = holderOf(asked.chapter);
            int found = 0;
            for (int i = 0; i < phraseCount; i++) {
                if (i != number && phrases[i].one == asked.one && holderOf(phrases[i].chapter) == book) {
                    found++;
                }
            }
            return found;
        }

        int freePhrases() {
            int found = 0;
            for (int i = 0; i < phraseCount; i++) {
                if (phrases[i].isFree()) {
                    found++;
                }
            }
            return found;
        }

        int lentPhrases() {
            int found = 0;
            for (int i = 0; i < phraseCount; i++) {
                if (phrases[i].isLent()) {
                    found++;
                }
            }
            return found;
        }

        int firstWords() {
            int found = 0;
            // Words are 0 to 63, so the bits of a long hold a set of them.
            long seen = 0;
            for (int i = 0; i < phraseCount; i++) {
                long word = 1L << phrases[i].one;
                if ((seen & word) == 0) {
                    found++;
                }
                seen |= word;
            }
            return found;
        }
    }

    private static final class History {
        private static final int MOST_STATES = 4;

        private final State[] states = new State[MOST_STATES];
        int size = 0;

        History() {
            for (int i = 0; i < MOST_STATES; i++) {
                states[i] = new State();
            }
        }

        void push(State state) {
            if (size >= MOST_STATES) {
                dropOldest();
            }
            states[size].copyFrom(state);
            size++;
        }

        /** The dropped state goes behind the others, so that its rows are used again. */
        private void dropOldest() {
            State dropped = states[0];
            for (int i = 1; i < MOST_STATES; i++) {
                states[i - 1] = states[i];
            }
            states[MOST_STATES - 1] = dropped;
            size = MOST_STATES - 1;
        }

        boolean popInto(State state) {
            if (size <= 0) {
                return false;
            }
            size--;
            state.copyFrom(states[size]);
            return true;
        }
    }

    private static final class Text {
        private static final int MOST_SIGNS = 60;
        /** No character of a text is 0, so it fits nothing that an order asks for. */
        private static final char NO_SIGN = 0;

        private final char[] signs = new char[MOST_SIGNS];
        int length = 0;

        int append(int character) {
            if (!within(character, 32, 126)) {
                return INVALID_ARGUMENT;
            }
            if (length >= MOST_SIGNS) {
                return LIMIT_REACHED;
            }
            signs[length] = (char) character;
            length++;
            return length;
        }

        int empty() {
            int had = length;
            length = 0;
            return had;
        }

        char signAt(int position) {
            return position >= 0 && position < length ? signs[position] : NO_SIGN;
        }
    }

    /** One order of a text. Numbers that it doesn't have are NONE, which a phrase takes for no word. */
    private static final class Order {
        private static final int MOST_NUMBERS = 4;

        private final int[] numbers = new int[MOST_NUMBERS];
        private int letter;
        private int amount;
        int end;

        /** Returns whether an order, its ";" included, begins at a position; end is behind it then. */
        boolean read(Text text, int start) {
            letter = text.signAt(start);
            end = start + 1;
            amount = 0;
            for (int i = 0; i < MOST_NUMBERS; i++) {
                numbers[i] = NONE;
            }
            return readNumbers(text) && hasItsNumbers();
        }

        private boolean readNumbers(Text text) {
            for (int i = 0; i < MOST_NUMBERS; i++) {
                if (!isDigit(text.signAt(end))) {
                    return false;
                }
                numbers[i] = readNumber(text);
                amount++;
                char behind = text.signAt(end);
                end++;
                if (behind != ',') {
                    return behind == ';';
                }
            }
            return false;
        }

        private int readNumber(Text text) {
            int number = text.signAt(end) - '0';
            end++;
            if (isDigit(text.signAt(end))) {
                number = number * 10 + (text.signAt(end) - '0');
                end++;
            }
            return number;
        }

        private boolean hasItsNumbers() {
            switch (letter) {
                case 'p': return amount >= 2;
                case 'o': return amount == 3;
                case 'l': return amount == 4;
                case 'f': return amount == 1;
                case 'd': return amount == 1;
                default: return false;
            }
        }

        int carryOut(State state) {
            switch (letter) {
                case 'p': return state.addPhrase(numbers[0], numbers[1], numbers[2], numbers[3]);
                case 'o': return state.placePhrase(numbers[0], numbers[1], numbers[2]);
                case 'l': return state.lendPhrase(numbers[0], numbers[1], numbers[2], numbers[3]);
                case 'f': return state.liftPhrase(numbers[0]);
                case 'd': return state.passDays(numbers[0]);
                default: return INVALID_ARGUMENT;
            }
        }

        private static boolean isDigit(char sign) {
            return sign >= '0' && sign <= '9';
        }
    }

    /** What a text's orders come to: how many are done, and the fault of the first that is not possible. */
    private static final class Reading {
        private static final int NO_ORDER = 1;
        private static final int REFUSED = 2;

        private final Order order = new Order();
        int orders;
        int position;
        int reason;
        int cause;

        boolean hasFault() {
            return position != NONE;
        }

        void rehearse(Text text, State state) {
            orders = 0;
            position = NONE;
            int start = 0;
            // No text has more orders than characters.
            for (int i = 0; i < Text.MOST_SIGNS && start < text.length && !hasFault(); i++) {
                boolean formed = order.read(text, start);
                // No call is made for what is no order, so none returns an error that could be told.
                int answer = formed ? order.carryOut(state) : NOT_FOUND;
                if (answer < 0) {
                    report(start, formed ? REFUSED : NO_ORDER, answer);
                } else {
                    orders++;
                }
                start = order.end;
            }
        }

        private void report(int start, int why, int error) {
            position = start;
            reason = why;
            cause = error;
        }
    }
}
