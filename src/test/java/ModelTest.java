import java.util.ArrayList;
import java.util.Arrays;
import java.util.List;
import java.util.Map;
import java.util.Random;
import java.util.TreeMap;

/** Runs of calls drawn from fixed seeds, answered by the class and by the Model. */
public final class ModelTest {
    private static final int RUNS = Integer.getInteger("runs", 900);
    private static final int CALLS = 512;
    private static final int[] FAR = {Integer.MIN_VALUE, Integer.MIN_VALUE + 1, -100001, -65536, -2, -1, 100, 255,
        1000, 10000, 65536, Integer.MAX_VALUE - 1, Integer.MAX_VALUE};
    private static final String[] NAMES = {"client", "chapter", "phrase", "place", "lift", "lend", "buyBack", "sell",
        "pass", "set", "clientOf", "chapterOf", "phraseOf", "find", "on", "tells", "alike", "count", "coming", "best",
        "keep", "restore", "undo", "type", "clearText", "fault", "play"};
    private static final int[] USUAL = {6, 14, 30, 40, 8, 60, 7, 14, 12, 5, 10, 8, 16, 6, 14, 6, 8, 12, 10, 8, 2, 2, 6,
        4, 2, 12, 8};
    /** Few chapters go and few states come back, so that the limits are met. */
    private static final int[] FULL = {8, 30, 60, 80, 2, 90, 2, 10, 5, 3, 8, 6, 10, 4, 10, 5, 6, 8, 8, 8, 1, 1, 1, 3, 1,
        10, 5};
    private static final int[] LONG = {6, 10, 20, 30, 3, 40, 2, 5, 300, 5, 4, 8, 6, 2, 4, 3, 3, 6, 20, 4, 1, 1, 2, 1, 1,
        4, 4};

    private final Random random;
    private final int[] weights;
    private final LentPhrases object = new LentPhrases();
    private final Model model = new Model();
    private final List<String> told = new ArrayList<>();
    private static final Map<String, Integer> SEEN = new TreeMap<>();

    private ModelTest(int seed) {
        random = new Random(seed);
        weights = seed % 3 == 0 ? USUAL : seed % 3 == 1 ? FULL : LONG;
    }

    public static void main(String[] args) {
        for (int seed = 0; seed < RUNS && Checks.wrongSoFar() == 0; seed++) {
            new ModelTest(seed).run();
        }
        for (String name : NAMES) {
            Checks.holds("an answer of " + name + " without error", SEEN.containsKey(name + " 0"));
        }
        if (args.length > 0) {
            System.out.println(SEEN);
        }
        Checks.finish("ModelTest");
    }

    private void run() {
        for (int i = 0; i < CALLS && Checks.wrongSoFar() == 0; i++) {
            String name = draw();
            if (name.equals("type")) {
                i += typeOrders();
            } else {
                both(name, arguments(name));
            }
            if (random.nextInt(40) == 0) {
                compareAll();
            }
        }
        compareAll();
        if (Checks.wrongSoFar() != 0) {
            told.forEach(System.out::println);
        }
    }

    private String draw() {
        int left = random.nextInt(Arrays.stream(weights).sum());
        for (int i = 0; i < NAMES.length; i++) {
            left -= weights[i];
            if (left < 0) {
                return NAMES[i];
            }
        }
        return "best";
    }

    private int both(String name, int... a) {
        int got = call(name, a);
        int want = model.call(name, a);
        String call = name + Arrays.toString(a);
        told.add(call + " " + got);
        SEEN.merge(name + " " + Math.min(0, got < -100000 ? got : 0), 1, Integer::sum);
        Checks.due(Arrays.asList(NAMES).indexOf(name) + 2, call, got, want);
        return got;
    }

    private int pick(int count) {
        int far = random.nextInt(60);
        if (far == 0) {
            return FAR[random.nextInt(FAR.length)];
        }
        return far == 1 ? count : far == 2 || count <= 0 ? -1 + random.nextInt(3) : random.nextInt(count);
    }

    private int between(int low, int high) {
        int far = random.nextInt(40);
        return far == 0 ? FAR[random.nextInt(FAR.length)] : far == 1 ? low - 1 : far == 2 ? high + 1
            : far == 3 ? low : far == 4 ? high : low + random.nextInt(high - low + 1);
    }

    private int page(int chapter) {
        int pages = object.chapterOf(chapter, 1);
        return random.nextInt(3) == 0 ? pick(pages) : pick(Math.min(pages, 2));
    }

    private int[] words() {
        int[] words = {between(0, 5), between(0, 3), between(0, 2)};
        if (random.nextInt(30) == 0) {
            words[random.nextInt(3)] = between(0, 63);
        }
        int amount = 1 + random.nextInt(3);
        if (amount <= 2) {
            words[2] = -1;
        }
        if (amount == 1 && random.nextInt(20) != 0) {
            words[1] = -1;
        }
        return words;
    }

    private int[] arguments(String name) {
        int clients = object.count(0);
        int chapters = object.count(1);
        int phrases = object.count(2);
        int chapter = pick(chapters);
        int[] words = words();
        switch (name) {
            case "client": return new int[] {between(0, 3), random.nextBoolean() ? between(0, 9999) : between(0, 300)};
            case "chapter": return new int[] {pick(clients), between(1, random.nextBoolean() ? 20 : 2), price()};
            case "phrase": return new int[] {between(0, 3), words[0], words[1], words[2]};
            case "place": return new int[] {pick(phrases), chapter, page(chapter)};
            case "lift": return new int[] {pick(phrases)};
            case "lend": return new int[] {pick(phrases), chapter, page(chapter), between(1, 20)};
            case "buyBack": return new int[] {chapter};
            case "sell": return new int[] {chapter, pick(clients), price()};
            case "pass": return new int[] {between(1, weights == LONG || random.nextInt(9) == 0 ? 99 : 7)};
            case "set": return random.nextBoolean() ? new int[] {0, between(0, 99)}
                : new int[] {between(1, 1), between(0, random.nextBoolean() ? 100 : 5)};
            case "clientOf": return new int[] {pick(clients), between(0, 6)};
            case "chapterOf": return new int[] {chapter, between(0, 5)};
            case "phraseOf": return new int[] {pick(phrases), between(0, 10)};
            case "find": return words;
            case "on": return new int[] {chapter, page(chapter), random.nextBoolean() ? between(0, 2) : between(0, 10)};
            case "tells": return new int[] {pick(clients), between(0, 15)};
            case "alike": return new int[] {pick(phrases)};
            case "count": return new int[] {random.nextInt(4) == 0 ? between(20, 21) : between(0, 11)};
            case "coming": return new int[] {random.nextBoolean() ? between(1, 20) : between(1, 99), between(0, 1)};
            case "best": return new int[] {between(0, 1)};
            case "fault": return new int[] {between(0, 2)};
            default: return new int[0];
        }
    }

    private int price() {
        return random.nextBoolean() ? between(0, 999) : between(0, 50);
    }

    private int typeOrders() {
        StringBuilder orders = new StringBuilder();
        if (random.nextInt(3) != 0) {
            both("clearText");
        }
        int amount = 1 + random.nextInt(8);
        for (int i = 0; i < amount; i++) {
            orders.append(order());
        }
        if (random.nextInt(4) == 0) {
            int at = random.nextInt(orders.length());
            String signs = "polfd;,0123456789 xP~/:";
            char sign = signs.charAt(random.nextInt(signs.length()));
            if (random.nextBoolean()) {
                orders.setCharAt(at, sign);
            } else if (random.nextBoolean()) {
                orders.insert(at, sign);
            } else {
                orders.deleteCharAt(at);
            }
        }
        for (int i = 0; i < orders.length(); i++) {
            both("type", orders.charAt(i));
        }
        if (random.nextInt(10) == 0) {
            both("type", between(32, 126));
        }
        for (int what = 0; what <= 2; what++) {
            both("fault", what);
        }
        if (random.nextBoolean()) {
            both("play");
        }
        return orders.length() + 4;
    }

    private String order() {
        String[][] calls = {{"p", "phrase"}, {"o", "place"}, {"l", "lend"}, {"f", "lift"}, {"d", "pass"}};
        String[] call = calls[random.nextInt(5)];
        StringBuilder order = new StringBuilder(call[0]);
        int written = 0;
        for (int number : arguments(call[1])) {
            if (number >= 0 && number <= 99) {
                order.append(written == 0 ? "" : ",").append(number < 10 && random.nextInt(4) == 0 ? "0" : "")
                    .append(number);
                written++;
            }
        }
        return order.append(';').toString();
    }

    private void compareAll() {
        for (int what = -1; what <= 22; what++) {
            both("count", what);
        }
        for (int client = -1; client <= object.count(0); client++) {
            for (int what = -1; what <= 7; what++) {
                both("clientOf", client, what);
            }
        }
        for (int chapter = -1; chapter <= object.count(1); chapter++) {
            for (int what = -1; what <= 6; what++) {
                both("chapterOf", chapter, what);
            }
            int page = pick(20);
            for (int index = -1; index <= 11; index++) {
                both("on", chapter, page, index);
            }
        }
        for (int phrase = -1; phrase <= object.count(2); phrase++) {
            for (int what = -1; what <= 11; what++) {
                both("phraseOf", phrase, what);
            }
            both("alike", phrase);
        }
        both("best", 0);
        both("best", 1);
    }

    private int call(String name, int[] a) {
        switch (name) {
            case "client": return object.client(a[0], a[1]);
            case "chapter": return object.chapter(a[0], a[1], a[2]);
            case "phrase": return object.phrase(a[0], a[1], a[2], a[3]);
            case "place": return object.place(a[0], a[1], a[2]);
            case "lift": return object.lift(a[0]);
            case "lend": return object.lend(a[0], a[1], a[2], a[3]);
            case "buyBack": return object.buyBack(a[0]);
            case "sell": return object.sell(a[0], a[1], a[2]);
            case "pass": return object.pass(a[0]);
            case "set": return object.set(a[0], a[1]);
            case "clientOf": return object.clientOf(a[0], a[1]);
            case "chapterOf": return object.chapterOf(a[0], a[1]);
            case "phraseOf": return object.phraseOf(a[0], a[1]);
            case "find": return object.find(a[0], a[1], a[2]);
            case "on": return object.on(a[0], a[1], a[2]);
            case "tells": return object.tells(a[0], a[1]);
            case "alike": return object.alike(a[0]);
            case "count": return object.count(a[0]);
            case "coming": return object.coming(a[0], a[1]);
            case "best": return object.best(a[0]);
            case "keep": return object.keep();
            case "restore": return object.restore();
            case "undo": return object.undo();
            case "type": return object.type(a[0]);
            case "clearText": return object.clearText();
            case "fault": return object.fault(a[0]);
            default: return object.play();
        }
    }
}
