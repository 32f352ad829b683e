import java.util.ArrayList;
import java.util.Arrays;
import java.util.HashMap;
import java.util.HashSet;
import java.util.List;
import java.util.Map;
import java.util.Objects;
import java.util.Set;
import java.util.regex.Matcher;
import java.util.regex.Pattern;
import java.util.stream.Collectors;

/**
 * The document said a second time, by objects that know one another and not by numbers, so that a slip in the
 * class isn't made here again. Calls go by name, with their arguments.
 */
final class Model {
    private static final int INVALID = -100001;
    private static final int IMPOSSIBLE = -100002;
    private static final int LIMIT = -100003;
    private static final int MISSING = -100004;

    private static final class Customer {
        int voice;
        int purse;
    }

    private static final class Part {
        Customer holder;
        int pages;
        int price;
        int day;
    }

    private static final class Spot {
        final Part part;
        final int page;

        Spot(Part part, int page) {
            this.part = part;
            this.page = page;
        }

        boolean is(Part other, int otherPage) {
            return part == other && page == otherPage;
        }
    }

    private static final class Loan {
        Spot home;
        int due;
    }

    private static final class Saying {
        int voice;
        List<Integer> words;
        Spot spot;
        Loan loan;
        int lent;

        boolean isIn(Customer customer) {
            return spot != null && spot.part.holder == customer;
        }
    }

    private static final class World {
        final List<Customer> customers = new ArrayList<>();
        final List<Part> parts = new ArrayList<>();
        final List<Saying> sayings = new ArrayList<>();
        int account;
        int fees;
        int day;
        int[] settings = {5, 2};

        World copy() {
            World copy = new World();
            Map<Customer, Customer> customerOf = new HashMap<>();
            Map<Part, Part> partOf = new HashMap<>();
            for (Customer customer : customers) {
                Customer other = new Customer();
                other.voice = customer.voice;
                other.purse = customer.purse;
                customerOf.put(customer, other);
                copy.customers.add(other);
            }
            for (Part part : parts) {
                Part other = new Part();
                other.holder = customerOf.get(part.holder);
                other.pages = part.pages;
                other.price = part.price;
                other.day = part.day;
                partOf.put(part, other);
                copy.parts.add(other);
            }
            for (Saying saying : sayings) {
                Saying other = new Saying();
                other.voice = saying.voice;
                other.words = saying.words;
                other.lent = saying.lent;
                other.spot = copySpot(saying.spot, partOf);
                if (saying.loan != null) {
                    other.loan = new Loan();
                    other.loan.home = copySpot(saying.loan.home, partOf);
                    other.loan.due = saying.loan.due;
                }
                copy.sayings.add(other);
            }
            copy.account = account;
            copy.fees = fees;
            copy.day = day;
            copy.settings = settings.clone();
            return copy;
        }

        private static Spot copySpot(Spot spot, Map<Part, Part> partOf) {
            return spot == null ? null : new Spot(Objects.requireNonNull(partOf.get(spot.part)), spot.page);
        }

        Customer customer(int number) {
            return number < 0 || number >= customers.size() ? null : customers.get(number);
        }

        Part part(int number) {
            return number < 0 || number >= parts.size() ? null : parts.get(number);
        }

        Saying saying(int number) {
            return number < 0 || number >= sayings.size() ? null : sayings.get(number);
        }

        boolean noPage(Part part, int page) {
            return part == null || page < 0 || page >= part.pages;
        }

        int left(Part part, int page) {
            Set<Saying> there = new HashSet<>();
            for (Saying saying : sayings) {
                if (saying.spot != null && saying.spot.is(part, page)) {
                    there.add(saying);
                }
                if (saying.loan != null && saying.loan.home != null && saying.loan.home.is(part, page)) {
                    there.add(saying);
                }
            }
            return 3 - there.size();
        }

        int worth(Part part) {
            return (int) Math.floor(part.price * (double) Math.max(100 - settings[1] * (day - part.day), 0) / 100.0);
        }

        void home(Saying saying) {
            saying.spot = saying.loan.home;
            saying.loan = null;
        }

        int tells(Customer customer, int voices) {
            return (int) sayings.stream()
                .filter(s -> s.isIn(customer) && s.voice != customer.voice && (voices & 1 << s.voice) != 0).count();
        }

        int allTells() {
            return customers.stream().mapToInt(c -> tells(c, 15)).sum();
        }

        void remove(Part part) {
            part.holder.purse += worth(part);
            account -= worth(part);
            for (Saying saying : sayings) {
                boolean here = saying.spot != null && saying.spot.part == part;
                if (here && saying.loan == null) {
                    saying.spot = null;
                } else if (here) {
                    home(saying);
                } else if (saying.loan != null && saying.loan.home != null && saying.loan.home.part == part) {
                    saying.loan.home = null;
                }
            }
            parts.remove(part);
        }

        int oneDay() {
            day++;
            int gone = 0;
            for (Saying saying : sayings) {
                if (saying.loan != null && saying.loan.due == day) {
                    home(saying);
                    gone++;
                }
            }
            return gone;
        }
    }

    private static final class Fault {
        int position = -1;
        int reason;
        int cause;
        int orders;
    }

    private World world = new World();
    private World kept;
    private final List<World> states = new ArrayList<>();
    private final StringBuilder text = new StringBuilder();

    private static final Set<String> CHANGES = Set.of("client", "chapter", "phrase", "place", "lift", "lend",
        "buyBack", "sell", "pass", "set", "restore", "play");

    int call(String name, int... a) {
        World before = world.copy();
        int answer = answer(name, a);
        if (CHANGES.contains(name)) {
            if (answer >= 0) {
                states.add(before);
                if (states.size() > 4) {
                    states.remove(0);
                }
            } else {
                world = before;
            }
        }
        return answer;
    }

    private int answer(String name, int[] a) {
        switch (name) {
            case "keep":
                kept = world.copy();
                return world.sayings.size();
            case "restore":
                if (kept == null) {
                    return IMPOSSIBLE;
                }
                world = kept.copy();
                return world.sayings.size();
            case "undo":
                if (states.isEmpty()) {
                    return IMPOSSIBLE;
                }
                world = states.remove(states.size() - 1);
                return states.size();
            case "type":
                if (a[0] < 32 || a[0] > 126) {
                    return INVALID;
                }
                if (text.length() == 60) {
                    return LIMIT;
                }
                return text.append((char) a[0]).length();
            case "clearText":
                int had = text.length();
                text.setLength(0);
                return had;
            case "fault":
                return fault(a[0]);
            case "play":
                World then = world.copy();
                Fault fault = run(then);
                if (fault.position >= 0) {
                    return IMPOSSIBLE;
                }
                world = then;
                return fault.orders;
            case "count":
                return count(a[0]);
            case "coming":
                return coming(a[0], a[1]);
            case "best":
                return best(a[0]);
            default:
                return name.equals("clientOf") || name.equals("chapterOf") || name.equals("phraseOf")
                    || name.equals("find") || name.equals("on") || name.equals("tells") || name.equals("alike")
                    ? query(name, a) : change(world, name, a);
        }
    }

    private static boolean out(int value, int low, int high) {
        return value < low || value > high;
    }

    private static List<Integer> words(int one, int two, int three) {
        if (out(one, 0, 63) || out(two, -1, 63) || out(three, -1, 63) || two == -1 && three != -1) {
            return null;
        }
        return Arrays.asList(one, two, three).stream().filter(w -> w >= 0).collect(Collectors.toList());
    }

    private static int numberOf(World w, List<Integer> words) {
        for (int i = 0; i < w.sayings.size(); i++) {
            if (w.sayings.get(i).words.equals(words)) {
                return i;
            }
        }
        return MISSING;
    }

    private static int change(World w, String name, int[] a) {
        switch (name) {
            case "client": {
                if (out(a[0], 0, 3) || out(a[1], 0, 9999)) {
                    return INVALID;
                }
                if (w.customers.size() == 5) {
                    return LIMIT;
                }
                Customer customer = new Customer();
                customer.voice = a[0];
                customer.purse = a[1];
                w.customers.add(customer);
                return w.customers.size() - 1;
            }
            case "chapter": {
                Customer customer = w.customer(a[0]);
                if (customer == null || out(a[1], 1, 20) || out(a[2], 0, 999)) {
                    return INVALID;
                }
                if (customer.purse < a[2]) {
                    return IMPOSSIBLE;
                }
                if (w.parts.size() == 10) {
                    return LIMIT;
                }
                Part part = new Part();
                part.holder = customer;
                part.pages = a[1];
                part.price = a[2];
                part.day = w.day;
                customer.purse -= a[2];
                w.account += a[2];
                w.parts.add(part);
                return w.parts.size() - 1;
            }
            case "phrase": {
                List<Integer> words = words(a[1], a[2], a[3]);
                if (out(a[0], 0, 3) || words == null) {
                    return INVALID;
                }
                if (numberOf(w, words) != MISSING) {
                    return IMPOSSIBLE;
                }
                if (w.sayings.size() == 24) {
                    return LIMIT;
                }
                Saying saying = new Saying();
                saying.voice = a[0];
                saying.words = words;
                w.sayings.add(saying);
                return w.sayings.size() - 1;
            }
            case "place": {
                Saying saying = w.saying(a[0]);
                Part part = w.part(a[1]);
                if (saying == null || w.noPage(part, a[2])) {
                    return INVALID;
                }
                if (saying.spot != null) {
                    return IMPOSSIBLE;
                }
                if (w.left(part, a[2]) == 0) {
                    return LIMIT;
                }
                saying.spot = new Spot(part, a[2]);
                return w.left(part, a[2]);
            }
            case "lift": {
                Saying saying = w.saying(a[0]);
                if (saying == null) {
                    return INVALID;
                }
                if (saying.spot == null || saying.loan != null) {
                    return IMPOSSIBLE;
                }
                int was = w.parts.indexOf(saying.spot.part);
                saying.spot = null;
                return was;
            }
            case "lend":
                return lend(w, w.saying(a[0]), w.part(a[1]), a[2], a[3]);
            case "buyBack": {
                Part part = w.part(a[0]);
                if (part == null) {
                    return INVALID;
                }
                int paid = w.worth(part);
                w.remove(part);
                return paid;
            }
            case "sell":
                return sell(w, w.part(a[0]), w.customer(a[1]), a[2]);
            case "pass": {
                if (out(a[0], 1, 99)) {
                    return INVALID;
                }
                if (w.day + a[0] > 9999) {
                    return LIMIT;
                }
                int gone = 0;
                for (int i = 0; i < a[0]; i++) {
                    gone += w.oneDay();
                }
                return gone;
            }
            case "set": {
                if (out(a[0], 0, 1) || out(a[1], 0, a[0] == 0 ? 99 : 100)) {
                    return INVALID;
                }
                int was = w.settings[a[0]];
                w.settings[a[0]] = a[1];
                return was;
            }
            default:
                throw new IllegalStateException(name);
        }
    }

    private static int lend(World w, Saying saying, Part part, int page, int days) {
        if (saying == null || w.noPage(part, page) || out(days, 1, 20)) {
            return INVALID;
        }
        if (saying.spot == null || saying.loan != null) {
            return IMPOSSIBLE;
        }
        Customer lender = saying.spot.part.holder;
        Customer borrower = part.holder;
        int fee = w.settings[0] * days;
        if (lender == borrower || borrower.purse < fee) {
            return IMPOSSIBLE;
        }
        if (w.left(part, page) == 0) {
            return LIMIT;
        }
        borrower.purse -= fee;
        lender.purse += fee;
        w.fees += fee;
        saying.loan = new Loan();
        saying.loan.home = saying.spot;
        saying.loan.due = w.day + days;
        saying.spot = new Spot(part, page);
        saying.lent++;
        return fee;
    }

    private static int sell(World w, Part part, Customer buyer, int price) {
        if (part == null || buyer == null || out(price, 0, 999)) {
            return INVALID;
        }
        if (part.holder == buyer || buyer.purse < price) {
            return IMPOSSIBLE;
        }
        buyer.purse -= price;
        part.holder.purse += price;
        int gone = 0;
        for (Saying saying : w.sayings) {
            if (saying.loan == null || saying.loan.home == null) {
                continue;
            }
            boolean lentToIt = saying.spot.part == part && saying.loan.home.part.holder == buyer;
            boolean lentFromIt = saying.loan.home.part == part && saying.spot.part.holder == buyer;
            if (lentToIt || lentFromIt) {
                w.home(saying);
                gone++;
            }
        }
        part.holder = buyer;
        part.price = price;
        part.day = w.day;
        return gone;
    }

    private int query(String name, int[] a) {
        World w = world;
        switch (name) {
            case "clientOf":
                return clientOf(w.customer(a[0]), a[1]);
            case "chapterOf":
                return chapterOf(w.part(a[0]), a[1]);
            case "phraseOf":
                return phraseOf(w.saying(a[0]), a[1]);
            case "find":
                List<Integer> words = words(a[0], a[1], a[2]);
                return words == null ? INVALID : numberOf(w, words);
            case "on": {
                Part part = w.part(a[0]);
                if (w.noPage(part, a[1]) || out(a[2], 0, 10)) {
                    return INVALID;
                }
                if (a[2] == 10) {
                    return w.left(part, a[1]);
                }
                List<Saying> there = w.sayings.stream().filter(s -> s.spot != null && s.spot.is(part, a[1]))
                    .collect(Collectors.toList());
                return a[2] < there.size() ? w.sayings.indexOf(there.get(a[2])) : MISSING;
            }
            case "tells":
                return w.customer(a[0]) == null || out(a[1], 0, 15) ? INVALID : w.tells(w.customer(a[0]), a[1]);
            case "alike": {
                Saying saying = w.saying(a[0]);
                if (saying == null) {
                    return INVALID;
                }
                if (saying.spot == null) {
                    return IMPOSSIBLE;
                }
                return (int) w.sayings.stream().filter(s -> s != saying && s.isIn(saying.spot.part.holder)
                    && s.words.get(0).equals(saying.words.get(0))).count();
            }
            default:
                throw new IllegalStateException(name);
        }
    }

    private int clientOf(Customer customer, int what) {
        if (customer == null || out(what, 0, 6)) {
            return INVALID;
        }
        List<Saying> in = world.sayings.stream().filter(s -> s.isIn(customer)).collect(Collectors.toList());
        int[] told = {
            customer.voice,
            customer.purse,
            (int) world.parts.stream().filter(p -> p.holder == customer).count(),
            in.size(),
            (int) in.stream().filter(s -> s.loan != null).count(),
            (int) world.sayings.stream().filter(s -> s.loan != null && s.loan.home != null
                && s.loan.home.part.holder == customer).count(),
            (int) in.stream().filter(s -> s.voice != customer.voice).count(),
        };
        return told[what];
    }

    private int chapterOf(Part part, int what) {
        if (part == null || out(what, 0, 5)) {
            return INVALID;
        }
        int[] told = {
            world.customers.indexOf(part.holder), part.pages, part.price, part.day,
            (int) world.sayings.stream().filter(s -> s.spot != null && s.spot.part == part).count(),
            world.worth(part),
        };
        return told[what];
    }

    private int phraseOf(Saying saying, int what) {
        if (saying == null || out(what, 0, 10)) {
            return INVALID;
        }
        if (what == 0) {
            return saying.voice;
        }
        if (what <= 3) {
            return what <= saying.words.size() ? saying.words.get(what - 1) : MISSING;
        }
        if (what == 10) {
            return saying.lent;
        }
        if (what == 7) {
            return saying.loan == null ? MISSING : saying.loan.due;
        }
        Spot spot = what <= 6 ? saying.spot : saying.loan == null ? null : saying.loan.home;
        if (spot == null) {
            return MISSING;
        }
        if (what == 6) {
            return world.customers.indexOf(spot.part.holder);
        }
        return what == 4 || what == 8 ? world.parts.indexOf(spot.part) : spot.page;
    }

    private int count(int what) {
        World w = world;
        switch (what) {
            case 0: return w.customers.size();
            case 1: return w.parts.size();
            case 2: return w.sayings.size();
            case 3: return w.day;
            case 4: return (int) w.sayings.stream().filter(s -> s.spot == null).count();
            case 5: return (int) w.sayings.stream().filter(s -> s.loan != null).count();
            case 6: return w.account;
            case 7: return w.fees;
            case 8: return states.size();
            case 9: return text.length();
            case 10: return kept == null ? 0 : 1;
            case 11: return (int) w.sayings.stream().map(s -> s.words.get(0)).distinct().count();
            case 20: return w.settings[0];
            case 21: return w.settings[1];
            default: return INVALID;
        }
    }

    private int coming(int days, int what) {
        if (out(days, 1, 99) || out(what, 0, 1)) {
            return INVALID;
        }
        World then = world.copy();
        int gone = 0;
        for (int i = 0; i < days; i++) {
            gone += then.oneDay();
        }
        return what == 0 ? gone : then.allTells();
    }

    private int best(int what) {
        if (out(what, 0, 1)) {
            return INVALID;
        }
        int[] tells = new int[world.parts.size()];
        for (int i = 0; i < tells.length; i++) {
            World then = world.copy();
            then.remove(then.parts.get(i));
            tells[i] = then.allTells();
        }
        int fewest = Arrays.stream(tells).min().orElse(MISSING);
        for (int i = 0; i < tells.length; i++) {
            if (tells[i] == fewest) {
                return what == 0 ? i : fewest;
            }
        }
        return MISSING;
    }

    private static final Pattern ORDER = Pattern.compile(
        "(?:(p)(\\d\\d?),(\\d\\d?)(?:,(\\d\\d?))?(?:,(\\d\\d?))?"
            + "|(o)(\\d\\d?),(\\d\\d?),(\\d\\d?)"
            + "|(l)(\\d\\d?),(\\d\\d?),(\\d\\d?),(\\d\\d?)"
            + "|([fd])(\\d\\d?));");

    private Fault run(World w) {
        Fault fault = new Fault();
        int at = 0;
        while (at < text.length()) {
            Matcher matcher = ORDER.matcher(text).region(at, text.length());
            if (!matcher.lookingAt()) {
                fault.position = at;
                fault.reason = 1;
                return fault;
            }
            String order = matcher.group();
            List<Integer> numbers = new ArrayList<>();
            for (String number : order.substring(1, order.length() - 1).split(",")) {
                numbers.add(Integer.parseInt(number));
            }
            while (numbers.size() < 4) {
                numbers.add(-1);
            }
            int[] a = numbers.stream().mapToInt(Integer::intValue).toArray();
            Map<Character, String> calls = Map.of('p', "phrase", 'o', "place", 'l', "lend", 'f', "lift", 'd', "pass");
            int answer = change(w, calls.get(order.charAt(0)), a);
            if (answer < 0) {
                fault.position = at;
                fault.reason = 2;
                fault.cause = answer;
                return fault;
            }
            fault.orders++;
            at = matcher.end();
        }
        return fault;
    }

    private int fault(int what) {
        if (out(what, 0, 2)) {
            return INVALID;
        }
        Fault fault = run(world.copy());
        if (fault.position < 0 || what == 2 && fault.reason == 1) {
            return MISSING;
        }
        return what == 0 ? fault.position : what == 1 ? fault.reason : fault.cause;
    }
}
