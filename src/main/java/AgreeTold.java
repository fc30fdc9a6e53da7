import java.util.Arrays;
import java.util.NoSuchElementException;

/**
 * Prophets who must agree: lands, sayings and promises are told, and the object answers which futures
 * are left by them. Every set of futures is a row of bits, one bit for the number of each future.
 */
public final class AgreeTold {
    public static final int NONE = -1;

    private static final int MAX_SIGNS = 1000;
    private static final int MAX_DAYS = 6;
    private static final int MAX_PEOPLE = 4;
    private static final int MAX_EVENTS = 4;
    private static final int MAX_PROPHETS = 5;
    private static final int MAX_LAWS = 4;
    private static final int MAX_WISHES = 6;
    private static final int MAX_FUTURES = 32768;
    private static final int MAX_SAYINGS = 12;
    private static final int MAX_PROMISES = 20;
    private static final int MAX_UNDO = 16;
    private static final int MAX_MARKS = 4;
    private static final int MAX_TURNS = 60;
    private static final int MAX_SEED = 9999;
    private static final int MAX_TALL = 99;
    private static final int MAX_COINS = 99;
    private static final int MAX_PRICE = 99;
    private static final int MAX_FACT = 9999;
    private static final int MAX_PURSE_TOLD = 999;
    private static final int MAX_PURSE = 99999;
    private static final int MAX_LETTERS = 8;
    private static final int MAX_DIGITS = 4;
    private static final int MAX_DEPTH = 5;
    /** Numbers of WORDS, (day - 1) * 16 + person * 4 + event, are below this. */
    private static final int MAX_WORDS = 96;
    private static final int BITS = 64;

    private static final int VAGUE_KIND = 1;
    private static final int FOOL_KIND = 2;
    private static final int GRAND_KIND = 3;
    private static final int WEATHER_KIND = 4;

    private static final int CANT_STAND = 1;
    private static final int UNKNOWN = 2;
    private static final int TOLD_ALREADY = 3;
    private static final int OUT_OF_RANGE = 4;
    private static final int TOO_MANY = 5;

    private static final int NAMES_SOMEBODY = -2;
    private static final int ALL_TOLD = -3;
    private static final int BY_LAWS_ALONE = -2;

    /** Kinds of tokens; the eight signs are kinds by their char codes, which are all above these. */
    private static final int END = 0;
    private static final int BAD = 1;
    private static final int NUMBER = 2;
    private static final int NAME = 3;
    private static final int DAYS = 4;
    private static final int PERSON = 5;
    private static final int TALL = 6;
    private static final int EVENT = 7;
    private static final int PROPHET = 8;
    private static final int PURSE = 9;
    private static final int LAW = 10;
    private static final int WISH = 11;
    private static final int FOR = 12;
    private static final int PRICE = 13;
    private static final int SOME = 14;
    private static final int ALL = 15;
    private static final int TOGETHER = 16;
    private static final int AHEAD = 17;
    private static final int ON = 18;
    private static final int BY = 19;
    private static final int FROM = 20;
    private static final int EVER = 21;
    private static final int NEVER = 22;
    private static final int TIMES = 23;
    private static final int MOST = 24;
    private static final int PLAIN = 25;
    private static final int WEATHER = 29;
    private static final int NOT = 30;
    private static final int AND = 31;
    private static final int OR = 32;
    /** These words stand in the order of the kinds from DAYS to OR. */
    private static final String KEYWORDS = "days person tall event prophet purse law wish for price some all together ahead on by from ever never times most plain vague fool grand weather not and or";
    private static final String FACTS = "before after told";
    private static final String SIGNS = "()<=+-*;";

    /** Codes of a FORMULA, taken from the left with a stack of rows. */
    private static final int DO_NOWHERE = 0;
    private static final int DO_NOT = 1;
    private static final int DO_AND = 2;
    private static final int DO_OR = 3;
    private static final int DO_DURING = 4;
    private static final int DO_TIMES = 5;
    private static final int DO_TOGETHER = 6;
    private static final int DO_AHEAD = 7;
    /** WHO in such a code is a person's number or one of these. */
    private static final int WHO_SOME = 4;
    private static final int WHO_ALL = 5;

    /** Codes of a price are kinds of tokens; a number's value or a fact's index stands above 8 bits. */
    private static final int VALUE_SHIFT = 8;
    private static final int KIND_MASK = 255;
    private static final int LEVEL_JOINED = 0;
    private static final int LEVEL_TEST = 1;
    private static final int LEVEL_SUM = 2;
    private static final int LEVEL_PRODUCT = 3;
    private static final int LEVEL_PART = 4;

    /** Far above what five levels of not and ( ) can need. */
    private static final int STACK = 64;

    private final Reader reader = new Reader();
    private final Tape tape = reader.tape;
    private final Worlds worlds = new Worlds();
    private final PriceLaw priceLaw = new PriceLaw();
    private final Joint joint = new Joint();
    private final Draws draws = new Draws();
    private final Story story = new Story();
    private final Story[] past = new Story[MAX_UNDO];
    private final Story[] marks = new Story[MAX_MARKS];
    private final FutureSet left = new FutureSet();
    private final FutureSet scratch = new FutureSet();
    private final FutureSet second = new FutureSet();
    /** Rows that calls use while they run, so that no call makes its own. */
    private final int[] openWords = new int[MAX_WORDS];
    private final int[] small = new int[2];
    private final int[] tellings = new int[MAX_PROPHETS];
    private final boolean[] wins = new boolean[1 << MAX_WISHES];
    private Land land = new Land();
    private int pastStart;
    private int pastCount;

    public AgreeTold() {
        refreshLeft();
    }

    public int feed(long a, long b, long c) {
        tape.putBytes(a);
        tape.putBytes(b);
        tape.putBytes(c);
        return tape.length;
    }

    public int land() {
        tape.cut();
        Land fresh = new Land();
        int fault = reader.readLand(fresh);
        if (fault != 0) {
            return fault;
        }
        land = fresh;
        worlds.build(fresh, reader.codes);
        story.begin(fresh);
        forgetPast();
        for (int i = 0; i < marks.length; i++) {
            marks[i] = null;
        }
        refreshLeft();
        return 0;
    }

    public int tell() {
        tape.cut();
        int fault = reader.readSaying(land);
        if (fault != 0) {
            return fault;
        }
        if (story.told >= MAX_SAYINGS) {
            return ALL_TOLD;
        }
        int who = reader.teller;
        if (land.kindOf(who) == WEATHER_KIND && reader.naming) {
            return NAMES_SOMEBODY;
        }
        worlds.solve(reader.codes, 0, reader.used, scratch);
        int after = left.sizeWith(scratch);
        if (after == 0) {
            return NONE;
        }
        remember();
        int price = priceLaw.priceOf(land.price, left.size(), after, story.told);
        story.addSaying(new Saying(who, price, after, scratch.copyOut()));
        story.pay(who, price);
        left.keep(scratch);
        return 0;
    }

    public int ask() {
        tape.cut();
        int fault = reader.readAsked(land);
        if (fault != 0) {
            return fault;
        }
        worlds.solve(reader.codes, 0, reader.used, scratch);
        story.asked = scratch.copyOut();
        return 0;
    }

    public int tall(int person) {
        return land.tallOf(person);
    }

    public int prophet(int prophet, int what) {
        if (!land.isProphet(prophet)) {
            return NONE;
        }
        switch (what) {
            case 0:
                return land.kindOf(prophet);
            case 1:
                return story.purseOf(prophet);
            case 2:
                return story.sayingsOf(prophet);
            case 3:
                return land.wishesOf(prophet);
            default:
                return NONE;
        }
    }

    public int futures(int what) {
        switch (what) {
            case 0:
                return worlds.total;
            case 1:
                return worlds.laws.size();
            case 2:
                return left.size();
            default:
                return NONE;
        }
    }

    public int saying(int saying, int what) {
        Saying one = story.sayingAt(saying);
        if (one == null) {
            return NONE;
        }
        switch (what) {
            case 0:
                return one.prophet;
            case 1:
                return one.price;
            case 2:
                return worlds.laws.sizeWith(one.row);
            case 3:
                return one.leftThen;
            default:
                return NONE;
        }
    }

    public boolean strike(int saying) {
        Saying one = story.sayingAt(saying);
        if (one == null || land.kindOf(one.prophet) == GRAND_KIND) {
            return false;
        }
        remember();
        story.removeSaying(saying);
        refreshLeft();
        return true;
    }

    public boolean come(int person, int event) {
        int today = story.today;
        if (!land.isWord(person, today, event) || story.cameOf(person, today) != NONE) {
            return false;
        }
        FutureSet row = worlds.wordRow(wordNumber(person, today, event));
        if (!left.meets(row)) {
            return false;
        }
        remember();
        story.setCame(person, event, land.people);
        left.keep(row);
        return true;
    }

    public int came(int person, int day) {
        if (!land.isPerson(person) || !land.isDay(day)) {
            return NONE;
        }
        return story.cameOf(person, day);
    }

    public int promise(int person, int tall) {
        if (!land.isPerson(person) || tall < 0 || tall > MAX_TALL || story.promises >= MAX_PROMISES) {
            return NONE;
        }
        remember();
        story.addPromise(person, tall);
        return story.promises;
    }

    public boolean undo() {
        if (pastCount <= 0) {
            return false;
        }
        pastCount--;
        Story before = past[Math.floorMod(pastStart + pastCount, MAX_UNDO)];
        if (before == null) {
            return false;
        }
        // what is ASKED is not among the things that are undone
        FutureSet asked = story.asked;
        story.copyFrom(before);
        story.asked = asked;
        refreshLeft();
        return true;
    }

    public int word(int person, int day, int event) {
        int all = left.size();
        if (!land.isWord(person, day, event) || all == 0) {
            return NONE;
        }
        return standing(left.sizeWith(worlds.wordRow(wordNumber(person, day, event))), all);
    }

    public int holds(int person, int day, int event) {
        if (!land.isWord(person, day, event)) {
            return NONE;
        }
        return left.sizeWith(worlds.wordRow(wordNumber(person, day, event)));
    }

    public int asked(int what) {
        FutureSet asked = story.asked;
        if (asked == null || what < 0 || what > 1) {
            return NONE;
        }
        int holding = left.sizeWith(asked);
        return what == 0 ? holding : standing(holding, left.size());
    }

    public int why() {
        if (!gatherAsked()) {
            return NONE;
        }
        int full = (1 << story.told) - 1;
        if (joint.agree(full)) {
            return NONE;
        }
        int best = full;
        for (int set = 0; set <= full; set++) {
            if (!joint.agree(set) && Integer.bitCount(set) < Integer.bitCount(best)) {
                best = set;
            }
        }
        return best;
    }

    public int struck() {
        if (!gatherAsked()) {
            return NONE;
        }
        int full = (1 << story.told) - 1;
        int grand = grandSayings();
        int best = NONE;
        for (int set = 0; set <= full; set++) {
            boolean fewer = best == NONE || Integer.bitCount(set) < Integer.bitCount(best);
            if (fewer && (set & grand) == 0 && joint.agree(full ^ set)) {
                best = set;
            }
        }
        return best;
    }

    public int making(int person, int day, int event, int what) {
        if (!land.isWord(person, day, event) || what < NONE || what > 1 || left.isEmpty()) {
            return NONE;
        }
        int found = findMaking(wordNumber(person, day, event));
        if (found == NONE) {
            return NONE;
        }
        int many = found & KIND_MASK;
        if (what == NONE) {
            return many;
        }
        if (what >= many) {
            return NONE;
        }
        return found >> (what + 1) * VALUE_SHIFT & KIND_MASK;
    }

    public int widest(boolean narrow) {
        int many = gatherOpen();
        int best = NONE;
        int bestSize = 0;
        for (int i = 0; i < many && i < openWords.length; i++) {
            int size = left.sizeWith(worlds.wordRow(openWords[i]));
            if (best == NONE || (narrow ? size < bestSize : size > bestSize)) {
                best = openWords[i];
                bestSize = size;
            }
        }
        return best;
    }

    public int vague(int person, int event, int what) {
        if (!land.isPerson(person) || !land.isEvent(event) || what < 0 || what > 1) {
            return NONE;
        }
        int all = left.size();
        int best = NONE;
        int bestSize = 0;
        int last = 4 * land.days + 2;
        for (int number = 0; number <= last; number++) {
            int size = leftWith(vagueCode(person, event, number));
            if (size < all && size > bestSize) {
                best = number;
                bestSize = size;
            }
        }
        return best == NONE || what == 0 ? best : bestSize;
    }

    public int span(int person, int event, int what) {
        if (!land.isPerson(person) || !land.isEvent(event) || what < 0 || what > 1) {
            return NONE;
        }
        int all = left.size();
        for (int day = 1; day <= land.days; day++) {
            int size = leftWith(clauseCode(DO_DURING, person, event, 1, day));
            if (what == 0 ? size > 0 : size == all) {
                return day;
            }
        }
        return NONE;
    }

    public int first(int person, int day, int event) throws NoSuchElementException {
        if (!land.isWord(person, day, event)) {
            throw new NoSuchElementException("no such word");
        }
        FutureSet goal = worlds.wordRow(wordNumber(person, day, event));
        groundInto(scratch);
        if (scratch.within(goal)) {
            return BY_LAWS_ALONE;
        }
        for (int i = 0; i < story.told; i++) {
            scratch.keep(sayingRow(i));
            if (scratch.within(goal)) {
                return i;
            }
        }
        return NONE;
    }

    public int knew(int prophet, int what) {
        if (!land.isProphet(prophet) || what < 0 || what > 1) {
            return NONE;
        }
        int own = story.sayingsOf(prophet);
        scratch.copyFrom(worlds.laws);
        for (int i = 0; i < story.told; i++) {
            if ((own >> i & 1) != 0) {
                scratch.keep(sayingRow(i));
            }
        }
        if (what == 0) {
            return scratch.size();
        }
        int known = 0;
        for (int i = 0; i < story.told; i++) {
            if ((own >> i & 1) == 0 && scratch.within(sayingRow(i))) {
                known |= 1 << i;
            }
        }
        return known;
    }

    public int wish(int wish, int what) {
        if (!land.isWish(wish)) {
            return NONE;
        }
        switch (what) {
            case 0:
                return land.wishOwner(wish);
            case 1:
                return land.wishCoins(wish);
            case 2:
                return left.sizeWith(worlds.wishRow(wish));
            default:
                return NONE;
        }
    }

    public int auction(int what) {
        if (what < 0 || what > 1) {
            return NONE;
        }
        gatherWishes();
        int best = 0;
        int bestCoins = 0;
        for (int set = 1; set < 1 << land.wishes; set++) {
            int coins = coinsOf(set);
            boolean fewer = coins == bestCoins && Integer.bitCount(set) < Integer.bitCount(best);
            if ((coins > bestCoins || fewer) && joint.agree(set)) {
                best = set;
                bestCoins = coins;
            }
        }
        return what == 0 ? bestCoins : best;
    }

    public int duel(int first, int other, int what) {
        if (!land.isProphet(first) || !land.isProphet(other) || first == other || what < 0 || what > 1) {
            return NONE;
        }
        gatherWishes();
        int firstWishes = land.wishesOf(first);
        int otherWishes = land.wishesOf(other);
        int begin = NONE;
        for (int set = (1 << land.wishes) - 1; set >= 0; set--) {
            boolean firstMoves = (Integer.bitCount(set) & 1) == 0;
            begin = winningWish(set, firstMoves ? firstWishes : otherWishes);
            if (set < wins.length) {
                wins[set] = begin != NONE;
            }
        }
        // the last set looked at was the empty one, with which a duel begins
        return what == 1 ? begin : begin == NONE ? 0 : 1;
    }

    public int kept() {
        int daysLeft = land.days - story.today + 1;
        int best = story.promises;
        // a cut of least weight between promises and keepers weighs as much as the most that can be kept
        for (int cut = 0; cut < 1 << land.people; cut++) {
            int weight = Integer.bitCount(cut) * daysLeft + promisesOutside(cut);
            best = Math.min(best, weight);
        }
        return best;
    }

    public int shorted() {
        int daysLeft = land.days - story.today + 1;
        int best = NONE;
        for (int i = 0; i < story.promises; i++) {
            int tall = story.promisedTall(i);
            if (tall > best && story.promisesFrom(tall) > land.peopleFrom(tall) * daysLeft) {
                best = tall;
            }
        }
        return best;
    }

    public int fair(int seed, int person, int day) {
        boolean known = land.isPerson(person) && land.isDay(day) && seed >= 0 && seed <= MAX_SEED;
        int all = left.size();
        if (!known || land.events == 0 || all == 0) {
            return NONE;
        }
        draws.begin(seed);
        int future = left.memberAt(draws.below(all));
        for (int event = 0; event < land.events; event++) {
            if (worlds.wordRow(wordNumber(person, day, event)).has(future)) {
                return event;
            }
        }
        return NONE;
    }

    public int year(int seed, int turns, int what) {
        boolean known = seed >= 0 && seed <= MAX_SEED && turns >= 1 && turns <= MAX_TURNS && what >= 0 && what <= 2;
        if (!known || land.prophets == 0 || land.people == 0 || land.events == 0) {
            return NONE;
        }
        int told = runYear(seed, turns);
        if (what == 0) {
            return told;
        }
        if (what == 1) {
            return scratch.size();
        }
        int best = 0;
        for (int i = 1; i < land.prophets && i < tellings.length; i++) {
            if (tellings[i] > tellings[best]) {
                best = i;
            }
        }
        return best;
    }

    public boolean mark(int mark, boolean back) {
        if (mark < 0 || mark >= marks.length) {
            return false;
        }
        Story held = marks[mark];
        if (back) {
            if (held == null) {
                return false;
            }
            story.copyFrom(held);
            forgetPast();
            refreshLeft();
            return true;
        }
        if (held == null) {
            held = new Story();
            marks[mark] = held;
        }
        held.copyFrom(story);
        return true;
    }

    public int count(int what) {
        switch (what) {
            case 0:
                return land.days;
            case 1:
                return land.people;
            case 2:
                return land.events;
            case 3:
                return land.prophets;
            case 4:
                return land.laws;
            case 5:
                return land.wishes;
            case 6:
                return story.told;
            case 7:
                return story.today;
            case 8:
                return story.promises;
            case 9:
                return story.asked == null ? 0 : 1;
            case 10:
                return pastCount;
            case 11:
                return tape.length;
            default:
                return NONE;
        }
    }

    private static int wordNumber(int person, int day, int event) {
        return (day - 1) * MAX_PEOPLE * MAX_EVENTS + person * MAX_EVENTS + event;
    }

    private static int clauseCode(int what, int who, int event, int low, int high) {
        return what | who << 4 | event << 8 | low << 12 | high << 16;
    }

    private static int standing(int holding, int all) {
        if (holding == all) {
            return 1;
        }
        return holding == 0 ? 0 : 2;
    }

    /** The laws and what came, without any saying. */
    private void groundInto(FutureSet row) {
        row.copyFrom(worlds.laws);
        for (int day = 1; day <= land.days; day++) {
            for (int person = 0; person < land.people; person++) {
                int event = story.cameOf(person, day);
                if (land.isEvent(event)) {
                    row.keep(worlds.wordRow(wordNumber(person, day, event)));
                }
            }
        }
    }

    private void refreshLeft() {
        groundInto(left);
        for (int i = 0; i < story.told; i++) {
            left.keep(sayingRow(i));
        }
    }

    private FutureSet sayingRow(int index) {
        Saying one = story.sayingAt(index);
        return one == null ? worlds.nothing : one.row;
    }

    private void remember() {
        int at = Math.floorMod(pastStart + pastCount, MAX_UNDO);
        if (pastCount < MAX_UNDO) {
            pastCount++;
        } else {
            pastStart = Math.floorMod(pastStart + 1, MAX_UNDO);
        }
        Story before = past[at];
        if (before == null) {
            before = new Story();
            past[at] = before;
        }
        before.copyFrom(story);
    }

    private void forgetPast() {
        pastStart = 0;
        pastCount = 0;
    }

    private boolean gatherAsked() {
        FutureSet asked = story.asked;
        if (asked == null) {
            return false;
        }
        groundInto(scratch);
        scratch.keep(asked);
        joint.begin();
        for (int i = 0; i < story.told; i++) {
            joint.addRow(sayingRow(i));
        }
        joint.gather(scratch);
        return true;
    }

    private void gatherWishes() {
        joint.begin();
        for (int i = 0; i < land.wishes; i++) {
            joint.addRow(worlds.wishRow(i));
        }
        joint.gather(left);
    }

    private int grandSayings() {
        int grand = 0;
        for (int i = 0; i < story.told; i++) {
            Saying one = story.sayingAt(i);
            if (one != null && land.kindOf(one.prophet) == GRAND_KIND) {
                grand |= 1 << i;
            }
        }
        return grand;
    }

    /** Fills openWords from the least number on and tells how many there are. */
    private int gatherOpen() {
        int many = 0;
        for (int day = 1; day <= land.days; day++) {
            for (int person = 0; person < land.people; person++) {
                for (int event = 0; event < land.events; event++) {
                    int number = wordNumber(person, day, event);
                    FutureSet row = worlds.wordRow(number);
                    if (left.meets(row) && !left.within(row) && many < openWords.length) {
                        openWords[many] = number;
                        many++;
                    }
                }
            }
        }
        return many;
    }

    /** How many words make the goal sure in the low 8 bits, these words in the 8 bits above each. */
    private int findMaking(int goalNumber) {
        FutureSet goal = worlds.wordRow(goalNumber);
        if (left.within(goal)) {
            return 0;
        }
        int many = gatherOpen();
        for (int i = 0; i < many && i < openWords.length; i++) {
            int number = openWords[i];
            if (number != goalNumber && left.withinBy(worlds.wordRow(number), goal)) {
                return 1 | number << VALUE_SHIFT;
            }
        }
        for (int i = 0; i < many && i < openWords.length; i++) {
            int number = openWords[i];
            int partner = number == goalNumber ? NONE : findPartner(i, many, goalNumber);
            if (partner != NONE) {
                return 2 | number << VALUE_SHIFT | partner << 2 * VALUE_SHIFT;
            }
        }
        return NONE;
    }

    private int findPartner(int from, int many, int goalNumber) {
        FutureSet goal = worlds.wordRow(goalNumber);
        if (from < 0 || from >= openWords.length) {
            return NONE;
        }
        scratch.copyFrom(left);
        scratch.keep(worlds.wordRow(openWords[from]));
        for (int i = from + 1; i < many && i < openWords.length; i++) {
            int number = openWords[i];
            FutureSet row = worlds.wordRow(number);
            if (number != goalNumber && scratch.withinBy(row, goal) && scratch.meets(row)) {
                return number;
            }
        }
        return NONE;
    }

    /** The vague words in their order: on, by and from each day, ever, never, times from 0 on. */
    private int vagueCode(int person, int event, int number) {
        int days = land.days;
        if (number < days) {
            return clauseCode(DO_DURING, person, event, number + 1, number + 1);
        }
        if (number < 2 * days) {
            return clauseCode(DO_DURING, person, event, 1, number - days + 1);
        }
        if (number < 3 * days) {
            return clauseCode(DO_DURING, person, event, number - 2 * days + 1, days);
        }
        if (number == 3 * days) {
            return clauseCode(DO_DURING, person, event, 1, days);
        }
        int times = Math.max(number - 3 * days - 2, 0);
        return clauseCode(DO_TIMES, person, event, times, times);
    }

    private int leftWith(int code) {
        small[0] = code;
        worlds.solve(small, 0, 1, scratch);
        return left.sizeWith(scratch);
    }

    private int coinsOf(int set) {
        int coins = 0;
        for (int i = 0; i < land.wishes; i++) {
            coins += (set >> i & 1) * land.wishCoins(i);
        }
        return coins;
    }

    /** The least wish with which whoever moves leaves the other one lost; wins of greater sets are known. */
    private int winningWish(int set, int wishes) {
        for (int i = 0; i < land.wishes; i++) {
            int then = set | 1 << i;
            boolean free = (wishes >> i & 1) != 0 && then != set;
            if (free && then < wins.length && joint.agree(then) && !wins[then]) {
                return i;
            }
        }
        return NONE;
    }

    private int promisesOutside(int cut) {
        int many = 0;
        for (int i = 0; i < story.promises; i++) {
            boolean outside = false;
            for (int person = 0; person < land.people; person++) {
                boolean fit = person != story.promisedTo(i) && land.tallOf(person) >= story.promisedTall(i);
                outside = outside || (fit && (cut >> person & 1) == 0);
            }
            many += outside ? 1 : 0;
        }
        return many;
    }

    /** Leaves in scratch what is LEFT at the end, in tellings how many each prophet told. */
    private int runYear(int seed, int turns) {
        int told = 0;
        scratch.copyFrom(left);
        Arrays.fill(tellings, 0);
        draws.begin(seed);
        for (int turn = 0; turn < turns; turn++) {
            int prophet = draws.below(land.prophets);
            int day = draws.below(land.days) + 1;
            int person = draws.below(land.people);
            int event = draws.below(land.events);
            int codes = yearCodes(land.kindOf(prophet), person, day, event);
            worlds.solve(small, 0, codes, second);
            if (scratch.meets(second) && prophet < tellings.length) {
                scratch.keep(second);
                tellings[prophet]++;
                told++;
            }
        }
        return told;
    }

    /** Puts into small how a kind of prophet tells a word; how many codes these are. */
    private int yearCodes(int kind, int person, int day, int event) {
        int who = kind == WEATHER_KIND ? WHO_SOME : person;
        int from = kind == VAGUE_KIND ? 1 : day;
        small[0] = clauseCode(DO_DURING, who, event, from, day);
        small[1] = DO_NOT;
        return kind == FOOL_KIND ? 2 : 1;
    }

    /** A row of bits, one for the number of each future; only the first cells of the array may be in use. */
    private static final class FutureSet {
        long[] cells = new long[1];
        int length = 1;

        /** Keeps the array where it is long enough; what the cells hold then is free. */
        void resize(int wanted) {
            int size = Math.max(wanted, 1);
            if (cells.length < size) {
                cells = new long[size];
            }
            length = size;
        }

        void clear() {
            Arrays.fill(cells, 0L);
        }

        void addRange(int from, int end) {
            if (from < 0 || from >= end || end > length * BITS) {
                return;
            }
            int low = from / BITS;
            int high = (end - 1) / BITS;
            for (int i = low; i <= high && i < cells.length; i++) {
                long bits = -1L;
                if (i == low) {
                    bits &= -1L << from % BITS;
                }
                if (i == high) {
                    bits &= -1L >>> BITS - 1 - (end - 1) % BITS;
                }
                cells[i] |= bits;
            }
        }

        /** A row of its own, since what is told must outlast the row it was found in. */
        FutureSet copyOut() {
            FutureSet copy = new FutureSet();
            copy.copyFrom(this);
            return copy;
        }

        void copyFrom(FutureSet source) {
            resize(source.length);
            for (int i = 0; i < length && i < cells.length && i < source.cells.length; i++) {
                cells[i] = source.cells[i];
            }
        }

        void keep(FutureSet filter) {
            for (int i = 0; i < length && i < cells.length; i++) {
                cells[i] &= filter.cellAt(i);
            }
        }

        long cellAt(int index) {
            return index >= 0 && index < length && index < cells.length ? cells[index] : 0L;
        }

        boolean has(int future) {
            return future >= 0 && (cellAt(future / BITS) >>> future % BITS & 1L) != 0L;
        }

        boolean isEmpty() {
            return !meets(this);
        }

        int size() {
            return sizeWith(this);
        }

        int sizeWith(FutureSet filter) {
            int size = 0;
            for (int i = 0; i < length && i < cells.length; i++) {
                size += Long.bitCount(cells[i] & filter.cellAt(i));
            }
            return size;
        }

        boolean meets(FutureSet filter) {
            for (int i = 0; i < length && i < cells.length; i++) {
                if ((cells[i] & filter.cellAt(i)) != 0L) {
                    return true;
                }
            }
            return false;
        }

        boolean within(FutureSet goal) {
            return withinBy(this, goal);
        }

        /** Whether all of this that the filter leaves lies in the goal. */
        boolean withinBy(FutureSet filter, FutureSet goal) {
            for (int i = 0; i < length && i < cells.length; i++) {
                if ((cells[i] & filter.cellAt(i) & ~goal.cellAt(i)) != 0L) {
                    return false;
                }
            }
            return true;
        }

        /** The member with so many lesser ones; NONE if there are not enough. */
        int memberAt(int index) {
            int ahead = 0;
            for (int i = 0; i < length && i < cells.length; i++) {
                int here = Long.bitCount(cells[i]);
                if (index < ahead + here) {
                    return i * BITS + bitAt(cells[i], index - ahead);
                }
                ahead += here;
            }
            return NONE;
        }

        private static int bitAt(long bits, int index) {
            long rest = bits;
            for (int i = 0; i < index && i < BITS; i++) {
                rest &= rest - 1L;
            }
            return Long.numberOfTrailingZeros(rest);
        }
    }

    /** The signs that were fed, and the tokens that they are cut into when something reads them. */
    private static final class Tape {
        final char[] signs = new char[MAX_SIGNS];
        final int[] kinds = new int[MAX_SIGNS + 1];
        final int[] places = new int[MAX_SIGNS + 1];
        /** A number's value, or a word's letters packed 5 bits each. */
        final long[] values = new long[MAX_SIGNS + 1];
        private final long[] keywords = packedWords(KEYWORDS);
        int length;
        int tokens;

        static long[] packedWords(String text) {
            int many = 1;
            for (int i = 0; i < text.length(); i++) {
                many += text.charAt(i) == ' ' ? 1 : 0;
            }
            long[] packed = new long[many];
            int at = 0;
            for (int i = 0; i < text.length() && at < packed.length; i++) {
                char sign = text.charAt(i);
                if (sign == ' ') {
                    at++;
                } else {
                    packed[at] = packed[at] << 5 | sign - 'a' + 1;
                }
            }
            return packed;
        }

        void putBytes(long bytes) {
            for (int shift = 56; shift >= 0; shift -= 8) {
                int sign = (int) (bytes >>> shift & 255L);
                boolean fit = sign == 10 || (sign >= 32 && sign <= 126);
                if (fit && length < signs.length) {
                    signs[length] = (char) sign;
                    length++;
                }
            }
        }

        /** Cuts the tape into tokens and empties it, since whatever reads it takes it. */
        void cut() {
            tokens = 0;
            int place = 0;
            for (int n = 0; n < MAX_SIGNS && place < length; n++) {
                place = cutToken(place);
            }
            addToken(END, length, 0L);
            length = 0;
        }

        /** The place behind the token or the blank that stands at a place. */
        private int cutToken(int place) {
            char sign = signAt(place);
            if (isLetter(sign)) {
                return cutWord(place);
            }
            if (isDigit(sign)) {
                return cutNumber(place);
            }
            if (sign != ' ' && sign != 10) {
                addToken(SIGNS.indexOf(sign) >= 0 ? sign : BAD, place, 0L);
            }
            return place + 1;
        }

        private int cutWord(int place) {
            int end = place;
            long packed = 0L;
            for (int n = 0; n < MAX_SIGNS && isLetter(signAt(end)); n++) {
                packed = packed << 5 | signAt(end) - 'a' + 1;
                end++;
            }
            addToken(end - place > MAX_LETTERS ? BAD : wordKind(packed), place, packed);
            return end;
        }

        private int cutNumber(int place) {
            int end = place;
            int value = 0;
            for (int n = 0; n < MAX_SIGNS && isDigit(signAt(end)); n++) {
                value = value * 10 + signAt(end) - '0';
                end++;
            }
            addToken(end - place > MAX_DIGITS ? BAD : NUMBER, place, value);
            return end;
        }

        private int wordKind(long packed) {
            for (int i = 0; i < keywords.length; i++) {
                if (keywords[i] == packed) {
                    return DAYS + i;
                }
            }
            return NAME;
        }

        private void addToken(int kind, int place, long value) {
            if (tokens < kinds.length && tokens < places.length && tokens < values.length) {
                kinds[tokens] = kind;
                places[tokens] = place;
                values[tokens] = value;
                tokens++;
            }
        }

        /** Behind the last sign there is none, 0. */
        private char signAt(int place) {
            return place >= 0 && place < length && place < signs.length ? signs[place] : 0;
        }

        private static boolean isLetter(char sign) {
            return sign >= 'a' && sign <= 'z';
        }

        private static boolean isDigit(char sign) {
            return sign >= '0' && sign <= '9';
        }
    }

    /** Reads the tokens of a tape from the left; stops at the first that is wrong. */
    private static final class Reader {
        final Tape tape = new Tape();
        private final long[] facts = Tape.packedWords(FACTS);
        /** Each clause and each sign makes one code at most, so that the signs of a tape bound them. */
        final int[] codes = new int[MAX_SIGNS + 2];
        int used;
        int teller;
        /** Whether the formula read last names a person. */
        boolean naming;
        private Land land = new Land();
        private boolean softened;
        private int at;
        private int kind;
        private long value;
        private int fault;

        int readLand(Land fresh) {
            begin(fresh);
            readDays();
            for (int n = 0; n < MAX_SIGNS && fault == 0 && kind != END; n++) {
                switch (kind) {
                    case PERSON:
                        readPerson();
                        break;
                    case EVENT:
                        readEvent();
                        break;
                    case PROPHET:
                        readProphet();
                        break;
                    case LAW:
                        readLaw();
                        break;
                    case WISH:
                        readWish();
                        break;
                    case PRICE:
                        readPrice();
                        break;
                    default:
                        wrong(CANT_STAND);
                        break;
                }
            }
            return fault;
        }

        int readSaying(Land told) {
            begin(told);
            teller = takeName(told.prophetNames, told.prophets);
            int tellerKind = told.kindOf(teller);
            softened = tellerKind == VAGUE_KIND;
            readFormula(0);
            if (tellerKind == FOOL_KIND) {
                emit(DO_NOT);
            }
            takeKind(';');
            takeKind(END);
            return fault;
        }

        int readAsked(Land told) {
            begin(told);
            readFormula(0);
            takeKind(';');
            takeKind(END);
            return fault;
        }

        private void begin(Land of) {
            land = of;
            fault = 0;
            used = 0;
            naming = false;
            softened = false;
            at = NONE;
            advance();
        }

        private void readDays() {
            takeKind(DAYS);
            int days = takeNumber(1, MAX_DAYS);
            takeKind(';');
            if (fault == 0) {
                land.days = days;
            }
        }

        private void readPerson() {
            if (land.people >= MAX_PEOPLE || land.futuresWith(land.people + 1, land.events) > MAX_FUTURES) {
                wrong(TOO_MANY);
            }
            takeKind(PERSON);
            long name = takeNewName();
            takeKind(TALL);
            int tall = takeNumber(0, MAX_TALL);
            takeKind(';');
            if (fault == 0) {
                land.addPerson(name, tall);
            }
        }

        private void readEvent() {
            if (land.events >= MAX_EVENTS || land.futuresWith(land.people, land.events + 1) > MAX_FUTURES) {
                wrong(TOO_MANY);
            }
            takeKind(EVENT);
            long name = takeNewName();
            takeKind(';');
            if (fault == 0) {
                land.addEvent(name);
            }
        }

        private void readProphet() {
            if (land.prophets >= MAX_PROPHETS) {
                wrong(TOO_MANY);
            }
            takeKind(PROPHET);
            long name = takeNewName();
            int prophetKind = kind - PLAIN;
            if (kind < PLAIN || kind > WEATHER) {
                wrong(CANT_STAND);
            }
            advance();
            takeKind(PURSE);
            int purse = takeNumber(0, MAX_PURSE_TOLD);
            takeKind(';');
            if (fault == 0) {
                land.addProphet(name, prophetKind, purse);
            }
        }

        private void readLaw() {
            if (land.laws >= MAX_LAWS) {
                wrong(TOO_MANY);
            }
            takeKind(LAW);
            int from = used;
            readFormula(0);
            takeKind(';');
            if (fault == 0) {
                land.addLaw(from, used);
            }
        }

        private void readWish() {
            if (land.wishes >= MAX_WISHES) {
                wrong(TOO_MANY);
            }
            takeKind(WISH);
            int whose = takeName(land.prophetNames, land.prophets);
            int tellerKind = land.kindOf(whose);
            takeKind(FOR);
            int coins = takeNumber(0, MAX_COINS);
            int from = used;
            naming = false;
            softened = tellerKind == VAGUE_KIND;
            readFormula(0);
            softened = false;
            takeKind(';');
            if (tellerKind == FOOL_KIND) {
                emit(DO_NOT);
            }
            if (tellerKind == WEATHER_KIND && naming) {
                emit(DO_NOWHERE);
                emit(DO_AND);
            }
            if (fault == 0) {
                land.addWish(whose, coins, from, used);
            }
        }

        private void readPrice() {
            if (land.priced) {
                wrong(TOLD_ALREADY);
            }
            takeKind(PRICE);
            int from = used;
            readExpression(LEVEL_JOINED, 0);
            takeKind(';');
            if (fault == 0) {
                land.setPrice(codes, from, used);
            }
        }

        private void readFormula(int depth) {
            boolean either = false;
            readItem(depth);
            for (int n = 0; n < MAX_SIGNS && fault == 0 && (kind == AND || kind == OR); n++) {
                boolean both = kind == AND;
                advance();
                // what stands ahead of an or is whole, so an earlier or is ended by it
                if (!both && either) {
                    emit(DO_OR);
                }
                either = either || !both;
                readItem(depth);
                if (both) {
                    emit(DO_AND);
                }
            }
            if (either) {
                emit(DO_OR);
            }
        }

        private void readItem(int depth) {
            int begun = kind;
            boolean pair = begun == TOGETHER || begun == AHEAD;
            boolean single = begun == NAME || begun == SOME || begun == ALL;
            if (begun != NOT && begun != '(' && !pair && !single) {
                wrong(CANT_STAND);
            } else if (begun == NAME && Land.find(land.peopleNames, land.people, value) == NONE) {
                wrong(UNKNOWN);
            } else if (depth >= MAX_DEPTH) {
                wrong(TOO_MANY);
            }
            if (fault != 0) {
                return;
            }
            if (begun == NOT) {
                advance();
                readItem(depth + 1);
                emit(DO_NOT);
            } else if (begun == '(') {
                advance();
                readFormula(depth + 1);
                takeKind(')');
            } else if (pair) {
                readPair();
            } else {
                readSingle();
            }
        }

        private void readPair() {
            int what = kind == TOGETHER ? DO_TOGETHER : DO_AHEAD;
            advance();
            long name = value;
            int one = takeName(land.peopleNames, land.people);
            if (kind == NAME && value == name) {
                wrong(TOLD_ALREADY);
            }
            int two = takeName(land.peopleNames, land.people);
            int event = takeName(land.eventNames, land.events);
            naming = true;
            emit(clauseCode(what, one, event, two, 0));
        }

        private void readSingle() {
            int who = kind == SOME ? WHO_SOME : WHO_ALL;
            if (kind == NAME) {
                who = takeName(land.peopleNames, land.people);
                naming = true;
            } else {
                advance();
            }
            int event = takeName(land.eventNames, land.events);
            int when = kind;
            if (when < ON || when > MOST) {
                wrong(CANT_STAND);
            }
            advance();
            int number = 0;
            if (when != EVER && when != NEVER) {
                number = takeNumber(when == TIMES || when == MOST ? 0 : 1, land.days);
            }
            emitWhen(when, who, event, number);
        }

        private void emitWhen(int when, int who, int event, int number) {
            if (when == TIMES || when == MOST || when == NEVER) {
                emit(clauseCode(DO_TIMES, who, event, when == TIMES ? number : 0, number));
                return;
            }
            boolean fromFirst = when == BY || when == EVER || (when == ON && softened);
            boolean toLast = when == FROM || when == EVER;
            emit(clauseCode(DO_DURING, who, event, fromFirst ? 1 : number, toLast ? land.days : number));
        }

        /** A level takes parts of the next one, joined by its own signs; a test takes one sign at most. */
        private void readExpression(int level, int depth) {
            if (level >= LEVEL_PART) {
                readPart(depth);
                return;
            }
            readExpression(level + 1, depth);
            int most = level == LEVEL_TEST ? 1 : MAX_SIGNS;
            for (int n = 0; n < most && fault == 0 && levelOf(kind) == level; n++) {
                int sign = kind;
                advance();
                readExpression(level + 1, depth);
                emit(sign);
            }
        }

        private static int levelOf(int sign) {
            switch (sign) {
                case AND:
                case OR:
                    return LEVEL_JOINED;
                case '<':
                case '=':
                    return LEVEL_TEST;
                case '+':
                case '-':
                    return LEVEL_SUM;
                case '*':
                    return LEVEL_PRODUCT;
                default:
                    return NONE;
            }
        }

        private void readPart(int depth) {
            int begun = kind;
            int fact = begun == NAME ? Land.find(facts, facts.length, value) : NONE;
            if (begun != NUMBER && begun != NOT && begun != '(' && fact == NONE) {
                wrong(CANT_STAND);
            } else if (depth >= MAX_DEPTH) {
                wrong(TOO_MANY);
            }
            if (fault != 0) {
                return;
            }
            int operand = begun == NAME ? fact : (int) value;
            advance();
            if (begun == NOT) {
                readPart(depth + 1);
                emit(NOT);
            } else if (begun == '(') {
                readExpression(LEVEL_JOINED, depth + 1);
                takeKind(')');
            } else {
                emit(begun | operand << VALUE_SHIFT);
            }
        }

        private int takeName(long[] names, int many) {
            int found = kind == NAME ? Land.find(names, many, value) : NONE;
            if (found == NONE) {
                wrong(kind == NAME ? UNKNOWN : CANT_STAND);
            }
            advance();
            return found;
        }

        private long takeNewName() {
            long name = value;
            if (kind != NAME) {
                wrong(CANT_STAND);
            } else if (land.isNamed(name)) {
                wrong(TOLD_ALREADY);
            }
            advance();
            return name;
        }

        private int takeNumber(int low, int high) {
            int number = (int) value;
            if (kind != NUMBER) {
                wrong(CANT_STAND);
            } else if (number < low || number > high) {
                wrong(OUT_OF_RANGE);
            }
            advance();
            return number;
        }

        private void takeKind(int wanted) {
            if (kind != wanted) {
                wrong(CANT_STAND);
            }
            advance();
        }

        /** Only the first fault counts; nothing moves on behind it. */
        private void wrong(int how) {
            if (fault == 0 && at >= 0 && at < tape.places.length) {
                fault = how + 16 * tape.places[at];
            }
        }

        /** The last token, the end, stays. */
        private void advance() {
            int next = at + 1;
            if (fault == 0 && next < tape.tokens && next < tape.kinds.length && next < tape.values.length) {
                at = next;
                kind = tape.kinds[next];
                value = tape.values[next];
            }
        }

        private void emit(int code) {
            if (fault == 0 && used < codes.length) {
                codes[used] = code;
                used++;
            }
        }
    }

    /** What a land's text told, but for the futures in which its formulas hold. */
    private static final class Land {
        final long[] peopleNames = new long[MAX_PEOPLE];
        final long[] eventNames = new long[MAX_EVENTS];
        final long[] prophetNames = new long[MAX_PROPHETS];
        private final int[] talls = new int[MAX_PEOPLE];
        private final int[] kinds = new int[MAX_PROPHETS];
        private final int[] purses = new int[MAX_PROPHETS];
        private final int[] owners = new int[MAX_WISHES];
        private final int[] coins = new int[MAX_WISHES];
        /** Where the codes of each law and each wish begin and end. */
        final int[] lawBegins = new int[MAX_LAWS];
        final int[] lawEnds = new int[MAX_LAWS];
        final int[] wishBegins = new int[MAX_WISHES];
        final int[] wishEnds = new int[MAX_WISHES];
        int[] price = {NUMBER | 1 << VALUE_SHIFT};
        boolean priced;
        int days = 1;
        int people;
        int events;
        int prophets;
        int laws;
        int wishes;

        static int find(long[] names, int many, long name) {
            for (int i = 0; i < many && i < names.length; i++) {
                if (names[i] == name) {
                    return i;
                }
            }
            return NONE;
        }

        boolean isNamed(long name) {
            return find(peopleNames, people, name) != NONE
                || find(eventNames, events, name) != NONE
                || find(prophetNames, prophets, name) != NONE;
        }

        /** How many futures so many people and events make; one above the most stands for all above it. */
        int futuresWith(int withPeople, int withEvents) {
            if (withPeople <= 0 || withEvents <= 0) {
                return 1;
            }
            int futures = 1;
            for (int i = 0; i < withPeople * days && futures <= MAX_FUTURES; i++) {
                futures *= withEvents;
            }
            return Math.min(futures, MAX_FUTURES + 1);
        }

        void addPerson(long name, int tall) {
            if (people < MAX_PEOPLE) {
                peopleNames[people] = name;
                talls[people] = tall;
                people++;
            }
        }

        void addEvent(long name) {
            if (events < MAX_EVENTS) {
                eventNames[events] = name;
                events++;
            }
        }

        void addProphet(long name, int kind, int purse) {
            if (prophets < MAX_PROPHETS) {
                prophetNames[prophets] = name;
                kinds[prophets] = kind;
                purses[prophets] = purse;
                prophets++;
            }
        }

        void addLaw(int from, int end) {
            if (laws < MAX_LAWS) {
                lawBegins[laws] = from;
                lawEnds[laws] = end;
                laws++;
            }
        }

        void addWish(int whose, int worth, int from, int end) {
            if (wishes < MAX_WISHES) {
                owners[wishes] = whose;
                coins[wishes] = worth;
                wishBegins[wishes] = from;
                wishEnds[wishes] = end;
                wishes++;
            }
        }

        void setPrice(int[] codes, int from, int end) {
            priced = true;
            if (from >= 0 && from <= end && end <= codes.length) {
                price = new int[end - from];
                for (int i = 0; i < price.length; i++) {
                    price[i] = codes[from + i];
                }
            }
        }

        boolean isPerson(int person) {
            return person >= 0 && person < people && person < MAX_PEOPLE;
        }

        boolean isEvent(int event) {
            return event >= 0 && event < events && event < MAX_EVENTS;
        }

        boolean isDay(int day) {
            return day >= 1 && day <= days && day <= MAX_DAYS;
        }

        boolean isProphet(int prophet) {
            return prophet >= 0 && prophet < prophets && prophet < MAX_PROPHETS;
        }

        boolean isWish(int wish) {
            return wish >= 0 && wish < wishes && wish < MAX_WISHES;
        }

        boolean isWord(int person, int day, int event) {
            return isPerson(person) && isDay(day) && isEvent(event);
        }

        int tallOf(int person) {
            return isPerson(person) ? talls[person] : NONE;
        }

        int kindOf(int prophet) {
            return isProphet(prophet) ? kinds[prophet] : NONE;
        }

        int purseOf(int prophet) {
            return isProphet(prophet) ? purses[prophet] : NONE;
        }

        int wishOwner(int wish) {
            return isWish(wish) ? owners[wish] : NONE;
        }

        int wishCoins(int wish) {
            return isWish(wish) ? coins[wish] : 0;
        }

        int wishesOf(int prophet) {
            int set = 0;
            for (int i = 0; i < wishes; i++) {
                if (wishOwner(i) == prophet) {
                    set |= 1 << i;
                }
            }
            return set;
        }

        int peopleFrom(int tall) {
            int many = 0;
            for (int i = 0; i < people; i++) {
                if (tallOf(i) >= tall) {
                    many++;
                }
            }
            return many;
        }
    }

    /** The futures of a land: in which each word, each wish and the laws hold. Its rows serve every land. */
    private static final class Worlds {
        final FutureSet laws = new FutureSet();
        final FutureSet nothing = new FutureSet();
        int total = 1;
        private final FutureSet[] words = new FutureSet[MAX_WORDS];
        private final FutureSet[] wishes = new FutureSet[MAX_WISHES];
        private final FutureSet one = new FutureSet();
        private final long[] stack = new long[STACK];
        private int days = 1;
        private int people;
        private int length = 1;

        /** One day and nobody: the one future, 0. */
        Worlds() {
            laws.addRange(0, total);
        }

        void build(Land land, int[] codes) {
            days = land.days;
            people = land.people;
            total = land.futuresWith(land.people, land.events);
            length = (total + BITS - 1) / BITS;
            buildWords(land.events);
            laws.resize(length);
            laws.clear();
            laws.addRange(0, total);
            for (int i = 0; i < land.laws && i < MAX_LAWS; i++) {
                solve(codes, land.lawBegins[i], land.lawEnds[i], one);
                laws.keep(one);
            }
            for (int i = 0; i < land.wishes && i < MAX_WISHES; i++) {
                if (wishes[i] == null) {
                    wishes[i] = new FutureSet();
                }
                solve(codes, land.wishBegins[i], land.wishEnds[i], wishes[i]);
            }
        }

        /** The first day's first person has the highest digit, so its events make the longest blocks. */
        private void buildWords(int events) {
            int block = total;
            for (int day = 1; day <= days && events > 0; day++) {
                for (int person = 0; person < people; person++) {
                    block = block / events;
                    for (int event = 0; event < events; event++) {
                        fillBlocks(wordNumber(person, day, event), event * block, block, block * events);
                    }
                }
            }
        }

        private void fillBlocks(int number, int begin, int block, int step) {
            if (number < 0 || number >= words.length || block <= 0 || step <= 0) {
                return;
            }
            FutureSet row = words[number];
            if (row == null) {
                row = new FutureSet();
                words[number] = row;
            }
            row.resize(length);
            row.clear();
            for (int from = begin; from < total; from += step) {
                row.addRange(from, from + block);
            }
        }

        FutureSet wordRow(int number) {
            FutureSet row = number >= 0 && number < words.length ? words[number] : null;
            return row == null ? nothing : row;
        }

        FutureSet wishRow(int wish) {
            FutureSet row = wish >= 0 && wish < wishes.length ? wishes[wish] : null;
            return row == null ? nothing : row;
        }

        /** Puts into a row in which futures the formula of some codes holds. */
        void solve(int[] codes, int from, int end, FutureSet row) {
            row.resize(length);
            for (int i = 0; i < length && i < row.cells.length; i++) {
                row.cells[i] = solveCell(codes, from, end, i);
            }
            int rest = total % BITS;
            int last = length - 1;
            if (rest != 0 && last >= 0 && last < row.cells.length) {
                row.cells[last] &= (1L << rest) - 1L;
            }
        }

        private long solveCell(int[] codes, int from, int end, int cell) {
            int top = 0;
            for (int i = Math.max(from, 0); i < end && i < codes.length; i++) {
                int what = codes[i] & 15;
                if (what == DO_NOT) {
                    if (top >= 1) {
                        stack[top - 1] = ~stack[top - 1];
                    }
                } else if (what == DO_AND || what == DO_OR) {
                    if (top >= 2) {
                        long right = stack[top - 1];
                        long leftOne = stack[top - 2];
                        stack[top - 2] = what == DO_AND ? leftOne & right : leftOne | right;
                        top--;
                    }
                } else if (top < stack.length) {
                    stack[top] = clauseCell(codes[i], cell);
                    top++;
                }
            }
            return top >= 1 ? stack[top - 1] : 0L;
        }

        private long clauseCell(int code, int cell) {
            int what = code & 15;
            if (what == DO_TOGETHER || what == DO_AHEAD) {
                return pairCell(code, cell);
            }
            if (what == DO_NOWHERE) {
                return 0L;
            }
            int who = code >> 4 & 15;
            boolean every = who == WHO_ALL;
            boolean one = !every && who != WHO_SOME;
            int end = one ? who + 1 : people;
            long bits = every ? -1L : 0L;
            for (int person = one ? who : 0; person < end; person++) {
                long own = what == DO_TIMES ? timesCell(code, person, cell) : duringCell(code, person, cell);
                bits = every ? bits & own : bits | own;
            }
            return bits;
        }

        private long pairCell(int code, int cell) {
            int one = code >> 4 & 15;
            int event = code >> 8 & 15;
            int two = code >> 12 & 15;
            boolean ahead = (code & 15) == DO_AHEAD;
            long bits = 0L;
            long twoHad = 0L;
            for (int day = 1; day <= days; day++) {
                long oneHas = wordCell(one, day, event, cell);
                long twoHas = wordCell(two, day, event, cell);
                twoHad |= twoHas;
                bits |= oneHas & (ahead ? ~twoHad : twoHas);
            }
            return bits;
        }

        private long duringCell(int code, int person, int cell) {
            int event = code >> 8 & 15;
            int low = code >> 12 & 15;
            int high = code >> 16 & 15;
            long bits = 0L;
            for (int day = low; day <= high; day++) {
                bits |= wordCell(person, day, event, cell);
            }
            return bits;
        }

        /** Counts the days of all futures in the cell at once: three rows are the digits of the counts. */
        private long timesCell(int code, int person, int cell) {
            long ones = 0L;
            long twos = 0L;
            long fours = 0L;
            for (int day = 1; day <= days; day++) {
                long add = wordCell(person, day, code >> 8 & 15, cell);
                long carry = ones & add;
                ones ^= add;
                fours ^= twos & carry;
                twos ^= carry;
            }
            int high = code >> 16 & 15;
            long bits = 0L;
            for (int n = code >> 12 & 15; n <= high; n++) {
                long same = (n & 1) != 0 ? ones : ~ones;
                same &= (n & 2) != 0 ? twos : ~twos;
                same &= (n & 4) != 0 ? fours : ~fours;
                bits |= same;
            }
            return bits;
        }

        private long wordCell(int person, int day, int event, int cell) {
            int number = wordNumber(person, day, event);
            FutureSet row = number >= 0 && number < words.length ? words[number] : null;
            return row != null && cell >= 0 && cell < row.cells.length ? row.cells[cell] : 0L;
        }
    }

    /** Works out what a saying costs. */
    private static final class PriceLaw {
        private final int[] stack = new int[STACK];

        int priceOf(int[] codes, int before, int after, int told) {
            int top = 0;
            for (int i = 0; i < codes.length; i++) {
                int kind = codes[i] & KIND_MASK;
                int operand = codes[i] >> VALUE_SHIFT;
                if (kind == NUMBER || kind == NAME) {
                    if (top < stack.length) {
                        stack[top] = kind == NUMBER ? operand : factValue(operand, before, after, told);
                        top++;
                    }
                } else if (kind == NOT) {
                    if (top >= 1) {
                        stack[top - 1] = stack[top - 1] == 0 ? 1 : 0;
                    }
                } else if (top >= 2) {
                    stack[top - 2] = joined(kind, stack[top - 2], stack[top - 1]);
                    top--;
                }
            }
            int price = top >= 1 ? stack[top - 1] : 0;
            return Math.max(0, Math.min(price, MAX_PRICE));
        }

        private static int factValue(int fact, int before, int after, int told) {
            if (fact == 2) {
                return told;
            }
            return Math.min(fact == 0 ? before : after, MAX_FACT);
        }

        private static int joined(int sign, int a, int b) {
            switch (sign) {
                case AND:
                    return a != 0 && b != 0 ? 1 : 0;
                case OR:
                    return a != 0 || b != 0 ? 1 : 0;
                case '<':
                    return a < b ? 1 : 0;
                case '=':
                    return a == b ? 1 : 0;
                case '+':
                    return a + b;
                case '-':
                    return a - b;
                default:
                    return a * b;
            }
        }
    }

    /** One saying that was told; never changed, so that stories may share it. */
    private static final class Saying {
        final int prophet;
        final int price;
        final int leftThen;
        final FutureSet row;

        Saying(int prophet, int price, int leftThen, FutureSet row) {
            this.prophet = prophet;
            this.price = price;
            this.leftThen = leftThen;
            this.row = row;
        }
    }

    /** All that was told in a land by hand; copies of it are what can be undone and what marks hold. */
    private static final class Story {
        private final Saying[] sayings = new Saying[MAX_SAYINGS];
        private final int[] purses = new int[MAX_PROPHETS];
        private final int[] cameEvents = new int[MAX_DAYS * MAX_PEOPLE];
        private final int[] owedTo = new int[MAX_PROMISES];
        private final int[] owedTall = new int[MAX_PROMISES];
        /** Null while nothing is ASKED. */
        FutureSet asked;
        int told;
        int today = 1;
        int promises;

        Story() {
            Arrays.fill(cameEvents, NONE);
        }

        void begin(Land land) {
            asked = null;
            told = 0;
            today = 1;
            promises = 0;
            Arrays.fill(cameEvents, NONE);
            for (int i = 0; i < purses.length; i++) {
                purses[i] = land.purseOf(i);
            }
        }

        void copyFrom(Story source) {
            asked = source.asked;
            told = source.told;
            today = source.today;
            promises = source.promises;
            for (int i = 0; i < sayings.length; i++) {
                sayings[i] = source.sayings[i];
            }
            for (int i = 0; i < purses.length; i++) {
                purses[i] = source.purses[i];
            }
            for (int i = 0; i < cameEvents.length; i++) {
                cameEvents[i] = source.cameEvents[i];
            }
            for (int i = 0; i < owedTo.length; i++) {
                owedTo[i] = source.owedTo[i];
                owedTall[i] = source.owedTall[i];
            }
        }

        void addSaying(Saying one) {
            if (told < sayings.length) {
                sayings[told] = one;
                told++;
            }
        }

        void removeSaying(int index) {
            if (index < 0 || index >= told || told > sayings.length) {
                return;
            }
            for (int i = index; i + 1 < told; i++) {
                sayings[i] = sayings[i + 1];
            }
            told--;
        }

        Saying sayingAt(int index) {
            return index >= 0 && index < told && index < sayings.length ? sayings[index] : null;
        }

        int sayingsOf(int prophet) {
            int set = 0;
            for (int i = 0; i < told; i++) {
                Saying one = sayingAt(i);
                if (one != null && one.prophet == prophet) {
                    set |= 1 << i;
                }
            }
            return set;
        }

        void pay(int prophet, int price) {
            if (prophet >= 0 && prophet < purses.length) {
                purses[prophet] = Math.min(purses[prophet] + price, MAX_PURSE);
            }
        }

        int purseOf(int prophet) {
            return prophet >= 0 && prophet < purses.length ? purses[prophet] : NONE;
        }

        int cameOf(int person, int day) {
            int at = cameIndex(person, day);
            return at == NONE ? NONE : cameEvents[at];
        }

        void setCame(int person, int event, int people) {
            int at = cameIndex(person, today);
            if (at == NONE) {
                return;
            }
            cameEvents[at] = event;
            boolean all = true;
            for (int i = 0; i < people; i++) {
                all = all && cameOf(i, today) != NONE;
            }
            if (all) {
                today++;
            }
        }

        private static int cameIndex(int person, int day) {
            boolean known = person >= 0 && person < MAX_PEOPLE && day >= 1 && day <= MAX_DAYS;
            return known ? (day - 1) * MAX_PEOPLE + person : NONE;
        }

        void addPromise(int person, int tall) {
            if (promises < owedTo.length) {
                owedTo[promises] = person;
                owedTall[promises] = tall;
                promises++;
            }
        }

        int promisedTo(int index) {
            return index >= 0 && index < promises && index < owedTo.length ? owedTo[index] : NONE;
        }

        int promisedTall(int index) {
            return index >= 0 && index < promises && index < owedTall.length ? owedTall[index] : NONE;
        }

        int promisesFrom(int tall) {
            int many = 0;
            for (int i = 0; i < promises; i++) {
                if (promisedTall(i) >= tall) {
                    many++;
                }
            }
            return many;
        }
    }

    /** Tells of every set out of some rows whether one future of a base lies in all rows of the set. */
    private static final class Joint {
        private final FutureSet[] rows = new FutureSet[MAX_SAYINGS];
        private boolean[] can = new boolean[1];
        private int size;

        void begin() {
            size = 0;
        }

        void addRow(FutureSet row) {
            if (size < rows.length) {
                rows[size] = row;
                size++;
            }
        }

        void gather(FutureSet base) {
            int sets = 1 << size;
            if (can.length < sets) {
                can = new boolean[sets];
            }
            for (int i = 0; i < sets && i < can.length; i++) {
                can[i] = false;
            }
            for (int cell = 0; cell < base.length; cell++) {
                gatherCell(base.cellAt(cell), cell);
            }
            spread(sets);
        }

        /** Marks the whole set of rows that each future lies in; futures in the same rows go at once. */
        private void gatherCell(long futures, int cell) {
            long rest = futures;
            for (int n = 0; n < BITS && rest != 0L; n++) {
                long lowest = rest & -rest;
                long same = rest;
                int set = 0;
                for (int i = 0; i < size && i < rows.length; i++) {
                    FutureSet row = rows[i];
                    long bits = row == null ? 0L : row.cellAt(cell);
                    boolean in = (bits & lowest) != 0L;
                    set |= in ? 1 << i : 0;
                    same &= in ? bits : ~bits;
                }
                if (set < can.length) {
                    can[set] = true;
                }
                rest &= ~same;
            }
        }

        /** What agrees with more rows agrees with fewer. */
        private void spread(int sets) {
            for (int i = 0; i < size; i++) {
                int bit = 1 << i;
                for (int set = 0; set < sets && set < can.length; set++) {
                    int more = set | bit;
                    if (more < can.length && can[more]) {
                        can[set] = true;
                    }
                }
            }
        }

        boolean agree(int set) {
            return set >= 0 && set < 1 << size && set < can.length && can[set];
        }
    }

    /** Draws by a seed. */
    private static final class Draws {
        private long state;

        void begin(int seed) {
            state = seed;
        }

        int below(int bound) {
            state = (state * 1103515245L + 12345L) % 2147483648L;
            return bound <= 0 ? 0 : (int) (state / 65536L % bound);
        }
    }
}
