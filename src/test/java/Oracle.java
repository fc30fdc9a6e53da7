import java.util.ArrayList;
import java.util.Arrays;
import java.util.List;
import java.util.NoSuchElementException;
import java.util.function.Predicate;
import java.util.function.ToIntFunction;
import java.util.regex.Matcher;
import java.util.regex.Pattern;

/**
 * The document again, written as plainly as can be and without any of the class's ways: every future is
 * an array of events, every formula a function, every question a search through all there is.
 */
final class Oracle {
    static final List<String> KEYWORDS = Arrays.asList("days", "person", "tall", "event", "prophet", "purse", "law",
        "wish", "for", "price", "some", "all", "together", "ahead", "on", "by", "from", "ever", "never", "times",
        "most", "plain", "vague", "fool", "grand", "weather", "not", "and", "or");
    static final List<String> KINDS = Arrays.asList("plain", "vague", "fool", "grand", "weather");

    record Token(String text, int place) {
    }

    record Person(String name, int tall) {
    }

    record Prophet(String name, int kind, int purse) {
    }

    record Wish(int owner, int coins, Predicate<int[][]> formula) {
    }

    record Said(int prophet, int price, int leftThen, Predicate<int[][]> formula) {
    }

    record Promised(int person, int tall) {
    }

    static final class Fault extends Exception {
        private static final long serialVersionUID = 1L;
        final int code;

        Fault(int kind, Token token) {
            code = kind + 16 * token.place();
        }
    }

    static final class LandData {
        int days = 1;
        List<Person> people = new ArrayList<>();
        List<String> events = new ArrayList<>();
        List<Prophet> prophets = new ArrayList<>();
        List<Predicate<int[][]>> laws = new ArrayList<>();
        List<Wish> wishes = new ArrayList<>();
        ToIntFunction<int[]> price;

        double futures(int people, int events) {
            return people == 0 || events == 0 ? 1 : Math.pow(events, people * days);
        }
    }

    static final class State {
        List<Said> said = new ArrayList<>();
        int[] purses = new int[5];
        int[][] came = new int[7][4];
        int today = 1;
        List<Promised> promises = new ArrayList<>();
        Predicate<int[][]> asked;

        State copy() {
            State s = new State();
            s.said = new ArrayList<>(said);
            s.purses = purses.clone();
            s.came = new int[7][];
            for (int i = 0; i < 7; i++) {
                s.came[i] = came[i].clone();
            }
            s.today = today;
            s.promises = new ArrayList<>(promises);
            s.asked = asked;
            return s;
        }
    }

    final StringBuilder tape = new StringBuilder();
    LandData land = new LandData();
    List<int[][]> all = new ArrayList<>();
    State state = new State();
    List<State> undo = new ArrayList<>();
    State[] marks = new State[4];
    // the reader
    List<Token> tokens;
    int at;
    LandData read;
    int tellerKind;
    boolean named;

    Oracle() {
        begin();
    }

    private void begin() {
        state = new State();
        for (int[] row : state.came) {
            Arrays.fill(row, -1);
        }
        for (int i = 0; i < land.prophets.size(); i++) {
            state.purses[i] = land.prophets.get(i).purse();
        }
        undo.clear();
        marks = new State[4];
        all = new ArrayList<>();
        int people = land.people.size();
        int events = land.events.size();
        int[][] f = new int[land.days + 1][people];
        if (people == 0 || events == 0) {
            for (int[] row : f) {
                Arrays.fill(row, -1);
            }
            all.add(f);
            return;
        }
        extend(f, 0);
    }

    private void extend(int[][] f, int position) {
        int people = land.people.size();
        if (position == people * land.days) {
            int[][] copy = new int[f.length][];
            for (int i = 0; i < f.length; i++) {
                copy[i] = f[i].clone();
            }
            all.add(copy);
            return;
        }
        for (int e = 0; e < land.events.size(); e++) {
            f[position / people + 1][position % people] = e;
            extend(f, position + 1);
        }
    }

    // ---- reading

    private void cut() {
        tokens = new ArrayList<>();
        String text = tape.toString();
        Matcher m = Pattern.compile("[a-z]+|[0-9]+|[ \n]+|.", Pattern.DOTALL).matcher(text);
        while (m.find()) {
            String t = m.group();
            if (t.charAt(0) == ' ' || t.charAt(0) == '\n') {
                continue;
            }
            boolean ok = t.matches("[a-z]{1,8}|[0-9]{1,4}|[()<=+*;-]");
            tokens.add(new Token(ok ? t : "?", m.start()));
        }
        tokens.add(new Token("", text.length()));
        tape.setLength(0);
        at = 0;
    }

    private Token now() {
        return tokens.get(at);
    }

    private boolean is(String text) {
        return now().text().equals(text);
    }

    private boolean isName() {
        return now().text().matches("[a-z]+") && !KEYWORDS.contains(now().text());
    }

    private void take(String text) throws Fault {
        if (!is(text)) {
            throw new Fault(1, now());
        }
        at++;
    }

    private int number(int low, int high) throws Fault {
        if (!now().text().matches("[0-9]+")) {
            throw new Fault(1, now());
        }
        int n = Integer.parseInt(now().text());
        if (n < low || n > high) {
            throw new Fault(4, now());
        }
        at++;
        return n;
    }

    private int personIndex(String name) {
        for (int i = 0; i < read.people.size(); i++) {
            if (read.people.get(i).name().equals(name)) {
                return i;
            }
        }
        return -1;
    }

    private int prophetIndex(String name) {
        for (int i = 0; i < read.prophets.size(); i++) {
            if (read.prophets.get(i).name().equals(name)) {
                return i;
            }
        }
        return -1;
    }

    private int known(int index) throws Fault {
        if (!isName()) {
            throw new Fault(1, now());
        }
        if (index < 0) {
            throw new Fault(2, now());
        }
        at++;
        return index;
    }

    private String fresh() throws Fault {
        if (!isName()) {
            throw new Fault(1, now());
        }
        String n = now().text();
        if (personIndex(n) >= 0 || prophetIndex(n) >= 0 || read.events.contains(n)) {
            throw new Fault(3, now());
        }
        at++;
        return n;
    }

    private void limit(boolean over, int kind) throws Fault {
        if (over) {
            throw new Fault(kind, now());
        }
    }

    private void line(boolean first) throws Fault {
        String word = now().text();
        if (first != word.equals("days")) {
            throw new Fault(1, now());
        }
        switch (word) {
            case "days" -> {
                at++;
                read.days = number(1, 6);
            }
            case "person" -> {
                limit(read.people.size() == 4 || read.futures(read.people.size() + 1, read.events.size()) > 32768, 5);
                at++;
                String name = fresh();
                take("tall");
                read.people.add(new Person(name, number(0, 99)));
            }
            case "event" -> {
                limit(read.events.size() == 4 || read.futures(read.people.size(), read.events.size() + 1) > 32768, 5);
                at++;
                read.events.add(fresh());
            }
            case "prophet" -> {
                limit(read.prophets.size() == 5, 5);
                at++;
                String name = fresh();
                int kind = KINDS.indexOf(now().text());
                limit(kind < 0, 1);
                at++;
                take("purse");
                read.prophets.add(new Prophet(name, kind, number(0, 999)));
            }
            case "law" -> {
                limit(read.laws.size() == 4, 5);
                at++;
                tellerKind = 0;
                read.laws.add(formula(0));
            }
            case "wish" -> {
                limit(read.wishes.size() == 6, 5);
                at++;
                int owner = known(prophetIndex(now().text()));
                take("for");
                int coins = number(0, 99);
                Predicate<int[][]> f = toldBy(owner);
                if (read.prophets.get(owner).kind() == 4 && named) {
                    f = x -> false;
                }
                read.wishes.add(new Wish(owner, coins, f));
            }
            case "price" -> {
                limit(read.price != null, 3);
                at++;
                read.price = joined(0);
            }
            default -> throw new Fault(1, now());
        }
        take(";");
    }

    private Predicate<int[][]> toldBy(int owner) throws Fault {
        tellerKind = read.prophets.get(owner).kind();
        named = false;
        Predicate<int[][]> f = formula(0);
        return tellerKind == 2 ? f.negate() : f;
    }

    private Predicate<int[][]> formula(int depth) throws Fault {
        Predicate<int[][]> f = term(depth);
        while (is("or")) {
            at++;
            f = f.or(term(depth));
        }
        return f;
    }

    private Predicate<int[][]> term(int depth) throws Fault {
        Predicate<int[][]> f = item(depth);
        while (is("and")) {
            at++;
            f = f.and(item(depth));
        }
        return f;
    }

    private Predicate<int[][]> item(int depth) throws Fault {
        boolean starts = isName() || Arrays.asList("not", "(", "some", "all", "together", "ahead").contains(now().text());
        limit(!starts, 1);
        limit(isName() && personIndex(now().text()) < 0, 2);
        limit(depth == 5, 5);
        if (is("not")) {
            at++;
            return item(depth + 1).negate();
        }
        if (is("(")) {
            at++;
            Predicate<int[][]> f = formula(depth + 1);
            take(")");
            return f;
        }
        if (is("together") || is("ahead")) {
            return pair(is("ahead"));
        }
        return clause();
    }

    private Predicate<int[][]> pair(boolean ahead) throws Fault {
        at++;
        named = true;
        int a = known(personIndex(now().text()));
        limit(isName() && personIndex(now().text()) == a, 3);
        int b = known(personIndex(now().text()));
        int e = known(read.events.indexOf(now().text()));
        if (ahead) {
            return f -> firstDay(f, a, e) < firstDay(f, b, e);
        }
        return f -> {
            for (int d = 1; d < f.length; d++) {
                if (f[d][a] == e && f[d][b] == e) {
                    return true;
                }
            }
            return false;
        };
    }

    private static int firstDay(int[][] f, int p, int e) {
        for (int d = 1; d < f.length; d++) {
            if (f[d][p] == e) {
                return d;
            }
        }
        return 99;
    }

    private static int days(int[][] f, int p, int e, int from, int to) {
        int n = 0;
        for (int d = from; d <= to && d < f.length; d++) {
            n += f[d][p] == e ? 1 : 0;
        }
        return n;
    }

    private Predicate<int[][]> clause() throws Fault {
        boolean some = is("some");
        boolean every = is("all");
        int who = -1;
        if (some || every) {
            at++;
        } else {
            who = known(personIndex(now().text()));
            named = true;
        }
        int e = known(read.events.indexOf(now().text()));
        String when = now().text();
        limit(!Arrays.asList("on", "by", "from", "ever", "never", "times", "most").contains(when), 1);
        at++;
        int n = 0;
        if (!when.equals("ever") && !when.equals("never")) {
            n = number(when.equals("times") || when.equals("most") ? 0 : 1, read.days);
        }
        if (when.equals("on") && tellerKind == 1) {
            when = "by";
        }
        String how = when;
        int number = n;
        int one = who;
        return f -> {
            if (one >= 0) {
                return has(f, one, e, how, number);
            }
            int holding = 0;
            for (int p = 0; p < f[1].length; p++) {
                holding += has(f, p, e, how, number) ? 1 : 0;
            }
            return some ? holding > 0 : holding == f[1].length;
        };
    }

    static boolean has(int[][] f, int p, int e, String how, int n) {
        return switch (how) {
            case "on" -> f[n][p] == e;
            case "by" -> days(f, p, e, 1, n) > 0;
            case "from" -> days(f, p, e, n, 6) > 0;
            case "ever" -> days(f, p, e, 1, 6) > 0;
            case "never" -> days(f, p, e, 1, 6) == 0;
            case "times" -> days(f, p, e, 1, 6) == n;
            default -> days(f, p, e, 1, 6) <= n;
        };
    }

    private ToIntFunction<int[]> joined(int depth) throws Fault {
        ToIntFunction<int[]> left = test(depth);
        while (is("and") || is("or")) {
            boolean and = is("and");
            at++;
            ToIntFunction<int[]> a = left;
            ToIntFunction<int[]> b = test(depth);
            left = x -> {
                boolean p = a.applyAsInt(x) != 0;
                boolean q = b.applyAsInt(x) != 0;
                return (and ? p && q : p || q) ? 1 : 0;
            };
        }
        return left;
    }

    private ToIntFunction<int[]> test(int depth) throws Fault {
        ToIntFunction<int[]> a = sum(depth);
        if (is("<") || is("=")) {
            boolean less = is("<");
            at++;
            ToIntFunction<int[]> b = sum(depth);
            return x -> (less ? a.applyAsInt(x) < b.applyAsInt(x) : a.applyAsInt(x) == b.applyAsInt(x)) ? 1 : 0;
        }
        return a;
    }

    private ToIntFunction<int[]> sum(int depth) throws Fault {
        ToIntFunction<int[]> left = product(depth);
        while (is("+") || is("-")) {
            int sign = is("+") ? 1 : -1;
            at++;
            ToIntFunction<int[]> a = left;
            ToIntFunction<int[]> b = product(depth);
            left = x -> a.applyAsInt(x) + sign * b.applyAsInt(x);
        }
        return left;
    }

    private ToIntFunction<int[]> product(int depth) throws Fault {
        ToIntFunction<int[]> left = part(depth);
        while (is("*")) {
            at++;
            ToIntFunction<int[]> a = left;
            ToIntFunction<int[]> b = part(depth);
            left = x -> a.applyAsInt(x) * b.applyAsInt(x);
        }
        return left;
    }

    private ToIntFunction<int[]> part(int depth) throws Fault {
        String t = now().text();
        int fact = Arrays.asList("before", "after", "told").indexOf(t);
        boolean num = t.matches("[0-9]+");
        limit(!num && fact < 0 && !t.equals("not") && !t.equals("("), 1);
        limit(depth == 5, 5);
        at++;
        if (num) {
            int n = Integer.parseInt(t);
            return x -> n;
        }
        if (fact >= 0) {
            return x -> Math.min(x[fact], 9999);
        }
        if (t.equals("not")) {
            ToIntFunction<int[]> a = part(depth + 1);
            return x -> a.applyAsInt(x) == 0 ? 1 : 0;
        }
        ToIntFunction<int[]> a = joined(depth + 1);
        take(")");
        return a;
    }

    // ---- the face

    int feed(long a, long b, long c) {
        for (long v : new long[] {a, b, c}) {
            for (int i = 7; i >= 0; i--) {
                int sign = (int) (v >> 8 * i & 255);
                if ((sign == 10 || (sign >= 32 && sign < 127)) && tape.length() < 1000) {
                    tape.append((char) sign);
                }
            }
        }
        return tape.length();
    }

    int land() {
        cut();
        read = new LandData();
        try {
            line(true);
            while (!now().text().isEmpty()) {
                line(false);
            }
        } catch (Fault f) {
            return f.code;
        }
        land = read;
        begin();
        return 0;
    }

    private List<int[][]> filter(List<int[][]> from, Predicate<int[][]> by) {
        List<int[][]> out = new ArrayList<>();
        for (int[][] f : from) {
            if (by.test(f)) {
                out.add(f);
            }
        }
        return out;
    }

    private List<int[][]> lawful() {
        List<int[][]> out = all;
        for (Predicate<int[][]> law : land.laws) {
            out = filter(out, law);
        }
        return out;
    }

    private List<int[][]> ground() {
        List<int[][]> out = lawful();
        for (int d = 1; d <= land.days; d++) {
            for (int p = 0; p < land.people.size(); p++) {
                int day = d;
                int person = p;
                int e = state.came[d][p];
                if (e >= 0) {
                    out = filter(out, f -> f[day][person] == e);
                }
            }
        }
        return out;
    }

    private List<int[][]> withSayings(List<int[][]> from, int set) {
        List<int[][]> out = from;
        for (int i = 0; i < state.said.size(); i++) {
            if ((set >> i & 1) != 0) {
                out = filter(out, state.said.get(i).formula());
            }
        }
        return out;
    }

    private List<int[][]> leftCache;

    List<int[][]> left() {
        if (leftCache == null) {
            leftCache = withSayings(ground(), -1);
        }
        return leftCache;
    }

    void changed() {
        leftCache = null;
    }

    int tell() {
        cut();
        read = land;
        int who;
        Predicate<int[][]> f;
        try {
            who = known(prophetIndex(now().text()));
            f = toldBy(who);
            take(";");
            take("");
        } catch (Fault fault) {
            return fault.code;
        }
        if (state.said.size() == 12) {
            return -3;
        }
        if (land.prophets.get(who).kind() == 4 && named) {
            return -2;
        }
        int before = left().size();
        int after = filter(left(), f).size();
        if (after == 0) {
            return -1;
        }
        push();
        int price = land.price == null ? 1 : land.price.applyAsInt(new int[] {before, after, state.said.size()});
        price = price < 0 ? 0 : price > 99 ? 99 : price;
        state.said.add(new Said(who, price, after, f));
        state.purses[who] = Math.min(99999, state.purses[who] + price);
        return 0;
    }

    private void push() {
        undo.add(state.copy());
        if (undo.size() > 16) {
            undo.remove(0);
        }
    }

    int ask() {
        cut();
        read = land;
        tellerKind = 0;
        try {
            Predicate<int[][]> f = formula(0);
            take(";");
            take("");
            state.asked = f;
        } catch (Fault fault) {
            return fault.code;
        }
        return 0;
    }

    private boolean person(int p) {
        return p >= 0 && p < land.people.size();
    }

    private boolean event(int e) {
        return e >= 0 && e < land.events.size();
    }

    private boolean day(int d) {
        return d >= 1 && d <= land.days;
    }

    private boolean isWord(int p, int d, int e) {
        return person(p) && event(e) && day(d);
    }

    private boolean isProphet(int p) {
        return p >= 0 && p < land.prophets.size();
    }

    int tall(int p) {
        return person(p) ? land.people.get(p).tall() : -1;
    }

    int prophet(int p, int what) {
        if (!isProphet(p) || what < 0 || what > 3) {
            return -1;
        }
        if (what < 2) {
            return what == 0 ? land.prophets.get(p).kind() : state.purses[p];
        }
        int bits = 0;
        if (what == 2) {
            for (int i = 0; i < state.said.size(); i++) {
                bits += state.said.get(i).prophet() == p ? 1 << i : 0;
            }
        } else {
            for (int i = 0; i < land.wishes.size(); i++) {
                bits += land.wishes.get(i).owner() == p ? 1 << i : 0;
            }
        }
        return bits;
    }

    int futures(int what) {
        return what == 0 ? all.size() : what == 1 ? lawful().size() : what == 2 ? left().size() : -1;
    }

    int saying(int s, int what) {
        if (s < 0 || s >= state.said.size()) {
            return -1;
        }
        Said one = state.said.get(s);
        return switch (what) {
            case 0 -> one.prophet();
            case 1 -> one.price();
            case 2 -> filter(lawful(), one.formula()).size();
            case 3 -> one.leftThen();
            default -> -1;
        };
    }

    boolean strike(int s) {
        if (s < 0 || s >= state.said.size() || isGrand(s)) {
            return false;
        }
        push();
        state.said.remove(s);
        return true;
    }

    private boolean isGrand(int s) {
        return land.prophets.get(state.said.get(s).prophet()).kind() == 3;
    }

    boolean come(int p, int e) {
        if (!person(p) || !event(e) || state.today > land.days || state.came[state.today][p] >= 0) {
            return false;
        }
        if (filter(left(), f -> f[state.today][p] == e).isEmpty()) {
            return false;
        }
        push();
        state.came[state.today][p] = e;
        boolean full = true;
        for (int i = 0; i < land.people.size(); i++) {
            full &= state.came[state.today][i] >= 0;
        }
        if (full) {
            state.today++;
        }
        return true;
    }

    int came(int p, int d) {
        return person(p) && day(d) ? state.came[d][p] : -1;
    }

    int promise(int p, int tall) {
        if (!person(p) || tall < 0 || tall > 99 || state.promises.size() == 20) {
            return -1;
        }
        push();
        state.promises.add(new Promised(p, tall));
        return state.promises.size();
    }

    boolean undo() {
        if (undo.isEmpty()) {
            return false;
        }
        Predicate<int[][]> asked = state.asked;
        state = undo.remove(undo.size() - 1);
        state.asked = asked;
        return true;
    }

    private static int standing(int n, int all) {
        return n == all ? 1 : n == 0 ? 0 : 2;
    }

    int word(int p, int d, int e) {
        return !isWord(p, d, e) || left().isEmpty() ? -1 : standing(holds(p, d, e), left().size());
    }

    int holds(int p, int d, int e) {
        return isWord(p, d, e) ? filter(left(), f -> f[d][p] == e).size() : -1;
    }

    int asked(int what) {
        if (state.asked == null || what < 0 || what > 1) {
            return -1;
        }
        int n = filter(left(), state.asked).size();
        return what == 0 ? n : standing(n, left().size());
    }

    private List<Integer> setsBySize(int n) {
        List<Integer> sets = new ArrayList<>();
        for (int i = 0; i < 1 << n; i++) {
            sets.add(i);
        }
        sets.sort((a, b) -> Integer.bitCount(a) != Integer.bitCount(b)
            ? Integer.bitCount(a) - Integer.bitCount(b) : a - b);
        return sets;
    }

    int why() {
        if (state.asked == null || !filter(left(), state.asked).isEmpty()) {
            return -1;
        }
        List<int[][]> base = filter(ground(), state.asked);
        for (int set : setsBySize(state.said.size())) {
            if (withSayings(base, set).isEmpty()) {
                return set;
            }
        }
        throw new IllegalStateException();
    }

    int struck() {
        if (state.asked == null) {
            return -1;
        }
        List<int[][]> base = filter(ground(), state.asked);
        for (int set : setsBySize(state.said.size())) {
            boolean grand = false;
            for (int i = 0; i < state.said.size(); i++) {
                grand |= (set >> i & 1) != 0 && isGrand(i);
            }
            if (!grand && !withSayings(base, ~set).isEmpty()) {
                return set;
            }
        }
        return -1;
    }

    private boolean holdsWord(int[][] f, int number) {
        return f[number / 16 + 1][number % 16 / 4] == number % 4;
    }

    private List<Integer> openWords() {
        List<Integer> open = new ArrayList<>();
        for (int n = 0; n < 96; n++) {
            if (word(n % 16 / 4, n / 16 + 1, n % 4) == 2) {
                open.add(n);
            }
        }
        return open;
    }

    private boolean makes(int goal, List<Integer> words) {
        List<int[][]> then = left();
        for (int w : words) {
            then = filter(then, f -> holdsWord(f, w));
        }
        return !then.isEmpty() && filter(then, f -> !holdsWord(f, goal)).isEmpty();
    }

    int making(int p, int d, int e, int what) {
        if (!isWord(p, d, e) || what < -1 || what > 1) {
            return -1;
        }
        int goal = (d - 1) * 16 + p * 4 + e;
        List<Integer> found = null;
        if (makes(goal, List.of())) {
            found = List.of();
        }
        List<Integer> open = openWords();
        open.remove((Integer) goal);
        for (int i = 0; i < open.size() && found == null; i++) {
            if (makes(goal, List.of(open.get(i)))) {
                found = List.of(open.get(i));
            }
        }
        for (int i = 0; i < open.size() && found == null; i++) {
            for (int j = i + 1; j < open.size() && found == null; j++) {
                if (makes(goal, List.of(open.get(i), open.get(j)))) {
                    found = List.of(open.get(i), open.get(j));
                }
            }
        }
        if (found == null) {
            return -1;
        }
        return what == -1 ? found.size() : what < found.size() ? found.get(what) : -1;
    }

    int widest(boolean narrow) {
        int best = -1;
        int size = 0;
        for (int w : openWords()) {
            int n = filter(left(), f -> holdsWord(f, w)).size();
            if (best < 0 || (narrow ? n < size : n > size)) {
                best = w;
                size = n;
            }
        }
        return best;
    }

    int vague(int p, int e, int what) {
        if (!person(p) || !event(e) || what < 0 || what > 1) {
            return -1;
        }
        List<String> hows = new ArrayList<>();
        List<Integer> numbers = new ArrayList<>();
        for (String how : new String[] {"on", "by", "from", "ever", "never", "times"}) {
            boolean alone = how.equals("ever") || how.equals("never");
            for (int n = how.equals("times") || alone ? 0 : 1; n <= (alone ? 0 : land.days); n++) {
                hows.add(how);
                numbers.add(n);
            }
        }
        int best = -1;
        int size = 0;
        for (int i = 0; i < hows.size(); i++) {
            String how = hows.get(i);
            int number = numbers.get(i);
            int n = filter(left(), f -> has(f, p, e, how, number)).size();
            if (n > 0 && n < left().size() && n > size) {
                best = i;
                size = n;
            }
        }
        return best < 0 ? -1 : what == 0 ? best : size;
    }

    int span(int p, int e, int what) {
        if (!person(p) || !event(e) || what < 0 || what > 1) {
            return -1;
        }
        for (int d = 1; d <= land.days; d++) {
            int day = d;
            if (what == 0 && holds(p, d, e) > 0) {
                return d;
            }
            if (what == 1 && filter(left(), f -> !has(f, p, e, "by", day)).isEmpty()) {
                return d;
            }
        }
        return -1;
    }

    int first(int p, int d, int e) {
        if (!isWord(p, d, e)) {
            throw new NoSuchElementException();
        }
        for (int i = 0; i <= state.said.size(); i++) {
            if (filter(withSayings(ground(), (1 << i) - 1), f -> f[d][p] != e).isEmpty()) {
                return i == 0 ? -2 : i - 1;
            }
        }
        return -1;
    }

    int knew(int p, int what) {
        if (!isProphet(p) || what < 0 || what > 1) {
            return -1;
        }
        int own = prophet(p, 2);
        List<int[][]> set = withSayings(lawful(), own);
        if (what == 0) {
            return set.size();
        }
        int bits = 0;
        for (int i = 0; i < state.said.size(); i++) {
            if ((own >> i & 1) == 0 && filter(set, state.said.get(i).formula().negate()).isEmpty()) {
                bits |= 1 << i;
            }
        }
        return bits;
    }

    int wish(int w, int what) {
        if (w < 0 || w >= land.wishes.size() || what < 0 || what > 2) {
            return -1;
        }
        Wish wish = land.wishes.get(w);
        return what == 0 ? wish.owner() : what == 1 ? wish.coins() : filter(left(), wish.formula()).size();
    }

    private boolean wishesAgree(int set) {
        List<int[][]> then = left();
        for (int i = 0; i < land.wishes.size(); i++) {
            if ((set >> i & 1) != 0) {
                then = filter(then, land.wishes.get(i).formula());
            }
        }
        return !then.isEmpty();
    }

    int auction(int what) {
        if (what < 0 || what > 1) {
            return -1;
        }
        int best = 0;
        int coins = 0;
        for (int set : setsBySize(land.wishes.size())) {
            int c = 0;
            for (int i = 0; i < land.wishes.size(); i++) {
                c += (set >> i & 1) * land.wishes.get(i).coins();
            }
            if (c > coins && wishesAgree(set)) {
                best = set;
                coins = c;
            }
        }
        return what == 0 ? coins : best;
    }

    /** The least wish that wins for whoever moves, or -1. */
    private int move(int mover, int waiting, int told) {
        for (int i = 0; i < land.wishes.size(); i++) {
            boolean can = land.wishes.get(i).owner() == mover && (told >> i & 1) == 0 && wishesAgree(told | 1 << i);
            if (can && move(waiting, mover, told | 1 << i) < 0) {
                return i;
            }
        }
        return -1;
    }

    int duel(int a, int b, int what) {
        if (!isProphet(a) || !isProphet(b) || a == b || what < 0 || what > 1) {
            return -1;
        }
        int first = move(a, b, 0);
        return what == 1 ? first : first < 0 ? 0 : 1;
    }

    private boolean keep(int promise, int[] slots, boolean[] tried) {
        int days = land.days - state.today + 1;
        Promised one = state.promises.get(promise);
        for (int slot = 0; slot < slots.length; slot++) {
            int keeper = slot / days;
            if (keeper == one.person() || tall(keeper) < one.tall() || tried[slot]) {
                continue;
            }
            tried[slot] = true;
            if (slots[slot] < 0 || keep(slots[slot], slots, tried)) {
                slots[slot] = promise;
                return true;
            }
        }
        return false;
    }

    int kept() {
        int days = land.days - state.today + 1;
        int[] slots = new int[days * land.people.size()];
        Arrays.fill(slots, -1);
        int kept = 0;
        for (int i = 0; i < state.promises.size(); i++) {
            kept += keep(i, slots, new boolean[slots.length]) ? 1 : 0;
        }
        return kept;
    }

    int shorted() {
        for (int t = 99; t >= 0; t--) {
            boolean asked = false;
            int more = 0;
            for (Promised p : state.promises) {
                asked |= p.tall() == t;
                more += p.tall() >= t ? 1 : 0;
            }
            int people = 0;
            for (Person p : land.people) {
                people += p.tall() >= t ? 1 : 0;
            }
            if (asked && more > people * (land.days - state.today + 1)) {
                return t;
            }
        }
        return -1;
    }

    private long g;

    private int draw(int m) {
        g = (g * 1103515245L + 12345L) & 2147483647L;
        return (int) ((g >> 16) % m);
    }

    int fair(int seed, int p, int d) {
        if (seed < 0 || seed > 9999 || !person(p) || !day(d) || land.events.isEmpty() || left().isEmpty()) {
            return -1;
        }
        g = seed;
        return left().get(draw(left().size()))[d][p];
    }

    int year(int seed, int turns, int what) {
        boolean empty = land.prophets.isEmpty() || land.people.isEmpty() || land.events.isEmpty();
        if (seed < 0 || seed > 9999 || turns < 1 || turns > 60 || what < 0 || what > 2 || empty) {
            return -1;
        }
        g = seed;
        List<int[][]> then = left();
        int told = 0;
        int[] by = new int[land.prophets.size()];
        for (int i = 0; i < turns; i++) {
            int who = draw(land.prophets.size());
            int d = draw(land.days) + 1;
            int p = draw(land.people.size());
            int e = draw(land.events.size());
            int kind = land.prophets.get(who).kind();
            List<int[][]> next = filter(then, f -> {
                if (kind == 4) {
                    for (int other = 0; other < f[d].length; other++) {
                        if (f[d][other] == e) {
                            return true;
                        }
                    }
                    return false;
                }
                return kind == 1 ? has(f, p, e, "by", d) : kind == 2 ? f[d][p] != e : f[d][p] == e;
            });
            if (!next.isEmpty()) {
                then = next;
                told++;
                by[who]++;
            }
        }
        int most = 0;
        for (int i = 0; i < by.length; i++) {
            most = by[i] > by[most] ? i : most;
        }
        return what == 0 ? told : what == 1 ? then.size() : most;
    }

    boolean mark(int m, boolean back) {
        if (m < 0 || m > 3 || (back && marks[m] == null)) {
            return false;
        }
        if (back) {
            state = marks[m].copy();
            undo.clear();
        } else {
            marks[m] = state.copy();
        }
        return true;
    }

    int count(int what) {
        int[] counts = {land.days, land.people.size(), land.events.size(), land.prophets.size(), land.laws.size(),
            land.wishes.size(), state.said.size(), state.today, state.promises.size(), state.asked == null ? 0 : 1,
            undo.size(), tape.length()};
        return what < 0 || what >= counts.length ? -1 : counts[what];
    }
}
