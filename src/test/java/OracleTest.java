import java.util.ArrayList;
import java.util.Collections;
import java.util.List;
import java.util.NoSuchElementException;
import java.util.Random;

/** Random runs of calls, each answer compared with the Oracle's. */
public final class OracleTest {
    private static final int RUNS = 1500;
    private static final int CALLS = 110;
    private static final String[] JUNK = {"days", "person", "tall", "event", "prophet", "purse", "law", "wish", "for",
        "price", "some", "all", "together", "ahead", "on", "by", "from", "ever", "never", "times", "most", "plain",
        "vague", "fool", "grand", "weather", "not", "and", "or", "(", ")", "<", "=", "+", "-", "*", ";", "0", "1", "2",
        "7", "99", "100", "999", "1000", "9999", "10000", "ann", "bob", "go", "wed", "old", "zzz", "before", "after",
        "told", "abcdefgh", "abcdefghi", "X", "#", ".", "3x", "on1"};
    private static final String[] PEOPLE = {"ann", "bob", "cy", "told"};
    private static final String[] EVENTS = {"go", "wed", "rest", "a"};
    private static final String[] PROPHETS = {"old", "mist", "jest", "high", "wind"};
    private static int wrong = 0;

    private final Random random;
    private final AgreeTold told = new AgreeTold();
    private final Oracle oracle = new Oracle();
    private final StringBuilder history = new StringBuilder();
    private final int biggest;
    private int days = 1;
    private int people;
    private int events;
    private int prophets;

    private OracleTest(int seed) {
        random = new Random(seed);
        biggest = seed % 100 == 0 ? 32768 : seed % 10 == 0 ? 1024 : 128;
    }

    private int below(int n) {
        return random.nextInt(n);
    }

    private boolean chance(int percent) {
        return below(100) < percent;
    }

    private String pick(String[] from, int many) {
        return chance(2) || many == 0 ? JUNK[below(JUNK.length)] : from[below(Math.min(many, from.length))];
    }

    private String clause() {
        if (chance(15)) {
            String one = pick(PEOPLE, people);
            String two = pick(PEOPLE, people);
            for (int i = 0; i < 5 && two.equals(one); i++) {
                two = pick(PEOPLE, people);
            }
            return (chance(50) ? "together " : "ahead ") + one + " " + two + " " + pick(EVENTS, events);
        }
        String who = chance(25) || people == 0 ? (chance(50) ? "some" : "all") : pick(PEOPLE, people);
        String text = who + " " + pick(EVENTS, events) + " ";
        int day = chance(2) ? below(9) : 1 + below(days);
        return text + switch (below(9)) {
            case 0 -> "by " + day;
            case 1 -> "from " + day;
            case 2 -> "ever";
            case 3 -> "never";
            case 4 -> "times " + (chance(3) ? below(9) : below(days + 1));
            case 5 -> "most " + (chance(3) ? below(9) : below(days + 1));
            default -> "on " + day;
        };
    }

    private String formula(int depth) {
        if (depth > 4 + below(3) || chance(55)) {
            return clause();
        }
        return switch (below(4)) {
            case 0 -> "not " + (chance(50) ? clause() : "( " + formula(depth + 2) + " )");
            case 1 -> formula(depth) + " or " + formula(depth);
            case 2 -> formula(depth) + " and " + formula(depth);
            default -> "( " + formula(depth + 1) + " )";
        };
    }

    private String expression(int depth) {
        if (depth > 3 || chance(35)) {
            String[] parts = {"before", "after", "told", "2", "7", "10", "9999"};
            return parts[below(parts.length)];
        }
        String[] signs = {"+", "-", "*", "<", "=", "and", "or"};
        return switch (below(5)) {
            case 0 -> "( " + expression(depth + 1) + " )";
            case 1 -> "not " + (chance(50) ? "( " + expression(depth + 1) + " )" : "told");
            default -> expression(depth + 1) + " " + signs[below(signs.length)] + " " + expression(depth + 1);
        };
    }

    private String landText() {
        days = 1 + below(6);
        people = below(8) == 0 ? 0 : 1 + below(4);
        events = below(10) == 0 ? below(2) : 2 + below(3);
        for (int i = 0; i < 50 && Math.pow(events, people * days) > biggest; i++) {
            days = 1 + below(6);
            people = 1 + below(4);
            events = 2 + below(3);
        }
        if (Math.pow(events, people * days) > biggest && chance(90)) {
            days = 2;
            people = 2;
        }
        prophets = chance(5) ? 0 : 1 + below(5);
        List<String> facts = new ArrayList<>();
        for (int i = 0; i < people; i++) {
            facts.add("person " + PEOPLE[i] + " tall " + below(100) + " ;");
        }
        for (int i = 0; i < events; i++) {
            facts.add("event " + EVENTS[i] + " ;");
        }
        for (int i = 0; i < prophets; i++) {
            String kind = Oracle.KINDS.get(chance(40) ? 0 : below(5));
            facts.add("prophet " + PROPHETS[i] + " " + kind + " purse " + below(1000) + " ;");
        }
        if (chance(50)) {
            Collections.shuffle(facts, random);
        }
        List<String> rest = new ArrayList<>();
        int laws = chance(50) ? 0 : below(chance(5) ? 6 : 3);
        for (int i = 0; i < laws && events > 0; i++) {
            rest.add("law " + formula(1) + " ;");
        }
        int wishes = below(chance(5) ? 9 : 7);
        for (int i = 0; i < wishes && events > 0 && prophets > 0; i++) {
            rest.add("wish " + pick(PROPHETS, prophets) + " for " + (chance(10) ? 0 : below(12)) + " " + formula(2) + " ;");
        }
        if (chance(70)) {
            rest.add("price " + expression(0) + " ;");
        }
        Collections.shuffle(rest, random);
        facts.addAll(rest);
        if (chance(4)) {
            Collections.shuffle(facts, random);
        }
        return "days " + days + " ;" + " " + String.join(chance(20) ? "\n" : " ", facts);
    }

    /** Sometimes spoils a text by a token, and sometimes leaves out blanks. */
    private String spoiled(String text, int percent) {
        String out = text;
        if (chance(percent)) {
            List<String> tokens = new ArrayList<>(List.of(text.split(" ")));
            int at = below(tokens.size());
            switch (below(4)) {
                case 0 -> tokens.remove(at);
                case 1 -> tokens.add(at, JUNK[below(JUNK.length)]);
                case 2 -> tokens.set(at, JUNK[below(JUNK.length)]);
                default -> tokens = new ArrayList<>(tokens.subList(0, at));
            }
            out = String.join(" ", tokens);
        }
        return chance(20) ? out.replaceAll(" ?([;()<=+*-]) ?", "$1") : out;
    }

    private void same(String call, long got, long due) {
        history.append("  ").append(call).append(" -> ").append(got).append('\n');
        if (got != due) {
            wrong++;
            System.out.println(history + "  due was " + due);
        }
    }

    private void feedBoth(String text) {
        history.append("  feed ").append(text).append('\n');
        for (int from = 0; from < text.length(); from += 24) {
            long a = Texts.pack(text, from);
            long b = Texts.pack(text, from + 8);
            long c = Texts.pack(text, from + 16);
            int got = told.feed(a, b, c);
            int due = oracle.feed(a, b, c);
            if (got != due) {
                same("feed", got, due);
            }
        }
    }

    private int near(int n) {
        return chance(4) ? below(9) - 2 : n <= 0 ? 0 : below(n);
    }

    private int bit(boolean b) {
        return b ? 1 : 0;
    }

    private void change(int which) {
        oracle.changed();
        int p = near(oracle.land.people.size());
        int e = near(oracle.land.events.size());
        switch (which) {
            case 0 -> {
                feedBoth(spoiled(landText(), 25));
                same("land()", told.land(), oracle.land());
            }
            case 1, 2, 3, 4 -> {
                syncSizes();
                feedBoth(spoiled(pick(PROPHETS, prophets) + " " + formula(0) + " ;", 6));
                same("tell()", told.tell(), oracle.tell());
            }
            case 5 -> {
                syncSizes();
                feedBoth(spoiled(formula(0) + " ;", 6));
                same("ask()", told.ask(), oracle.ask());
            }
            case 6 -> {
                int s = near(oracle.state.said.size());
                same("strike(" + s + ")", bit(told.strike(s)), bit(oracle.strike(s)));
            }
            case 7 -> same("come(" + p + ", " + e + ")", bit(told.come(p, e)), bit(oracle.come(p, e)));
            case 8 -> {
                int tall = chance(3) ? below(3) * 100 - 100 : below(100);
                same("promise(" + p + ", " + tall + ")", told.promise(p, tall), oracle.promise(p, tall));
            }
            case 9 -> same("undo()", bit(told.undo()), bit(oracle.undo()));
            default -> {
                int m = near(4);
                boolean back = chance(50);
                same("mark(" + m + ", " + back + ")", bit(told.mark(m, back)), bit(oracle.mark(m, back)));
            }
        }
        oracle.changed();
        same("futures(2)", told.futures(2), oracle.futures(2));
    }

    private void syncSizes() {
        days = oracle.land.days;
        people = oracle.land.people.size();
        events = oracle.land.events.size();
        prophets = oracle.land.prophets.size();
    }

    private void look() {
        int p = near(oracle.land.people.size());
        int q = near(oracle.land.people.size());
        int d = near(oracle.land.days) + 1;
        int e = near(oracle.land.events.size());
        int r = near(oracle.land.prophets.size());
        int r2 = near(oracle.land.prophets.size());
        int s = near(oracle.state.said.size());
        int w = near(oracle.land.wishes.size());
        int seed = chance(2) ? below(2) * 10001 - 1 : below(10000);
        int turns = chance(3) ? below(2) * 61 : 1 + below(60);
        int two = near(2);
        int three = near(3);
        int four = near(4);
        switch (below(24)) {
            case 0 -> same("tall " + p, told.tall(p), oracle.tall(p));
            case 1 -> same("prophet " + r + " " + four, told.prophet(r, four), oracle.prophet(r, four));
            case 2 -> same("futures " + three, told.futures(three), oracle.futures(three));
            case 3 -> same("saying " + s + " " + four, told.saying(s, four), oracle.saying(s, four));
            case 4 -> same("came " + p + " " + d, told.came(p, d), oracle.came(p, d));
            case 5 -> same("word " + p + " " + d + " " + e, told.word(p, d, e), oracle.word(p, d, e));
            case 6 -> same("holds " + p + " " + d + " " + e, told.holds(p, d, e), oracle.holds(p, d, e));
            case 7 -> same("asked " + two, told.asked(two), oracle.asked(two));
            case 8 -> same("why", told.why(), oracle.why());
            case 9 -> same("struck", told.struck(), oracle.struck());
            case 10 -> {
                int what = near(3) - 1;
                same("making " + p + " " + d + " " + e + " " + what, told.making(p, d, e, what), oracle.making(p, d, e, what));
            }
            case 11 -> same("widest " + (two == 0), told.widest(two == 0), oracle.widest(two == 0));
            case 12 -> same("vague " + p + " " + e + " " + two, told.vague(p, e, two), oracle.vague(p, e, two));
            case 13 -> same("span " + p + " " + e + " " + two, told.span(p, e, two), oracle.span(p, e, two));
            case 14 -> same("first " + p + " " + d + " " + e, firstOfTold(p, d, e), firstOfOracle(p, d, e));
            case 15 -> same("knew " + r + " " + two, told.knew(r, two), oracle.knew(r, two));
            case 16 -> same("wish " + w + " " + three, told.wish(w, three), oracle.wish(w, three));
            case 17 -> same("auction " + two, told.auction(two), oracle.auction(two));
            case 18 -> same("duel " + r + " " + r2 + " " + two, told.duel(r, r2, two), oracle.duel(r, r2, two));
            case 19 -> same("kept", told.kept(), oracle.kept());
            case 20 -> same("shorted", told.shorted(), oracle.shorted());
            case 21 -> same("fair " + seed + " " + q + " " + d, told.fair(seed, q, d), oracle.fair(seed, q, d));
            case 22 -> same("year " + seed + " " + turns + " " + three, told.year(seed, turns, three),
                oracle.year(seed, turns, three));
            default -> {
                int what = below(14) - 1;
                same("count " + what, told.count(what), oracle.count(what));
            }
        }
    }

    private int firstOfTold(int p, int d, int e) {
        try {
            return told.first(p, d, e);
        } catch (NoSuchElementException thrown) {
            return -99;
        }
    }

    private int firstOfOracle(int p, int d, int e) {
        try {
            return oracle.first(p, d, e);
        } catch (NoSuchElementException thrown) {
            return -99;
        }
    }

    private void run() {
        if (chance(95)) {
            change(0);
        }
        // many runs tell little and promise or undo much, so that every limit is met in some
        int favourite = below(4) == 0 ? 6 + below(5) : 1;
        for (int call = 0; call < CALLS; call++) {
            if (oracle.land.people.isEmpty() && chance(10)) {
                change(0);
            } else if (chance(60)) {
                look();
            } else {
                change(chance(1) ? 0 : chance(40) ? favourite : 1 + below(10));
            }
        }
    }

    public static void main(String[] args) {
        int runs = args.length > 0 ? Integer.parseInt(args[0]) : RUNS;
        int from = args.length > 1 ? Integer.parseInt(args[1]) : 1;
        for (int seed = from; seed < from + runs && wrong < 3; seed++) {
            new OracleTest(seed).run();
        }
        if (wrong > 0) {
            System.exit(1);
        }
        System.out.println(runs + " runs agree");
    }
}
