import java.util.NoSuchElementException;

/** For each promise of the document: ordinary calls, the edges that it names, and wrong inputs. */
public final class PromisesTest {
    private static final int NONE = AgreeTold.NONE;
    private static final String TWO_PEOPLE = "days 3 ; person ann tall 50 ; person bob tall 80 ; event sun ; event rain ; ";
    private static final String FIVE_PROPHETS = "prophet old plain purse 7 ; prophet mist vague purse 0 ;"
        + " prophet jest fool purse 0 ; prophet high grand purse 999 ; prophet wind weather purse 1 ; ";
    /** 64 futures; the price is how many futures a saying takes away. */
    private static final String LAND = TWO_PEOPLE + FIVE_PROPHETS + "price before - after ;";
    /** 8 futures. */
    private static final String ONE_PERSON = "days 3 ; person p tall 9 ; event e ; event f ; prophet s plain purse 0 ;"
        + " prophet v vague purse 0 ; prophet g grand purse 0 ; ";
    private static int wrong = 0;

    private PromisesTest() {
    }

    private static void due(int promise, String call, long got, long want) {
        if (got != want) {
            wrong++;
            System.out.println("promise " + promise + ": " + call + " answered " + got + ", due is " + want);
        }
    }

    private static void due(int promise, String call, boolean got, boolean want) {
        due(promise, call, got ? 1 : 0, want ? 1 : 0);
    }

    private static AgreeTold in(String land) {
        AgreeTold told = new AgreeTold();
        due(3, land, Texts.land(told, land), 0);
        return told;
    }

    private static void told(AgreeTold told, String... sayings) {
        for (String saying : sayings) {
            due(4, saying, Texts.tell(told, saying), 0);
        }
    }

    private static int fault(int kind, int place) {
        return kind + 16 * place;
    }

    private static void newObject() {
        AgreeTold told = new AgreeTold();
        due(1, "NONE", NONE, -1);
        int[] counts = {1, 0, 0, 0, 0, 0, 0, 1, 0, 0, 0, 0};
        for (int i = 0; i < counts.length; i++) {
            due(1, "count " + i, told.count(i), counts[i]);
        }
        for (int what = 0; what < 3; what++) {
            due(1, "futures " + what, told.futures(what), 1);
        }
        due(1, "tall", told.tall(0), NONE);
        due(1, "prophet", told.prophet(0, 0), NONE);
        due(1, "come", told.come(0, 0), false);
        due(1, "came", told.came(0, 1), NONE);
        due(1, "promise", told.promise(0, 0), NONE);
        due(1, "fair", told.fair(0, 0, 1), NONE);
        due(1, "year", told.year(0, 1, 0), NONE);
        due(1, "widest", told.widest(true), NONE);
        due(1, "land", told.land(), 1);
        due(1, "tell", told.tell(), 1);
        due(1, "ask", told.ask(), 1);
    }

    private static void feed() {
        AgreeTold told = new AgreeTold();
        due(2, "what is no sign", told.feed(0x00090A1F207E7FFFL, 0L, -1L), 3);
        due(2, "a b c in their order", told.feed(0x6100000000000000L, 0x62L, 0x0000630000000000L), 6);
        due(2, "the tape", told.count(11), 6);
        told.land();
        due(2, "the tape is taken", told.count(11), 0);
        due(2, "nothing", told.feed(0L, 0L, 0L), 0);
        for (int i = 1; i <= 41; i++) {
            due(2, "feed " + i, told.feed(0x2020202020202020L, 0x2020202020202020L, 0x2020202020202020L), 24 * i);
        }
        due(2, "the end of the tape", told.feed(0x2020202020202020L, 0x2020202020202064L, 0x6120202020202020L), 1000);
        due(2, "beyond it", told.feed(-1L, 0x6161616161616161L, 0L), 1000);
        due(2, "the last sign that came", told.tell(), fault(2, 999));
        due(2, "high bytes first", told.feed(0x6461797320362020L, 0x3B00000000000000L, 0L), 9);
        due(2, "read", told.land(), 0);
        due(2, "days", told.count(0), 6);
    }

    private static void landFault(String text, int want) {
        AgreeTold told = new AgreeTold();
        due(3, text, Texts.land(told, text), want);
        due(3, "the tape behind " + text, told.count(11), 0);
    }

    private static void landTokens() {
        landFault("", 1);
        landFault("   \n ", fault(1, 5));
        landFault("days", fault(1, 4));
        landFault("days ;", fault(1, 5));
        landFault("days 6", fault(1, 6));
        landFault("days 6;", 0);
        landFault("days6;", 0);
        landFault("\ndays\n6\n;\n", 0);
        landFault("days 0006 ;", 0);
        landFault("days 00006 ;", fault(1, 5));
        landFault("days 6x ;", fault(1, 6));
        landFault("days 0 ;", fault(4, 5));
        landFault("days 7 ;", fault(4, 5));
        landFault("days 9999 ;", fault(4, 5));
        landFault("Days 1 ;", 1);
        landFault("day 1 ;", 1);
        landFault("event e ;", 1);
        landFault("; days 1 ;", 1);
        landFault("days 1 ; ;", fault(1, 9));
        landFault("days 1 ; days 1 ;", fault(1, 9));
        landFault("days 1 ; event abcdefgh ;", 0);
        landFault("days 1 ; event abcdefghi ;", fault(1, 15));
        landFault("days 1 ; event a1 ;", fault(1, 16));
        landFault("days 1 ; event # ;", fault(1, 15));
        landFault("days 1 ; event a_ ;", fault(1, 16));
        for (String word : Oracle.KEYWORDS) {
            landFault("days 1 ; event " + word + " ;", fault(1, 15));
        }
        landFault("days 1 ; event before ; event after ; event told ; event kind ;", 0);
    }

    private static void landLines() {
        landFault("days 1 ; person a tall 0 ; person b tall 99 ;", 0);
        landFault("days 1 ; person a tall 100 ;", fault(4, 23));
        landFault("days 1 ; person a 10 ;", fault(1, 18));
        landFault("days 1 ; person a tall a ;", fault(1, 23));
        landFault("days 1 ; person a tall 1 person", fault(1, 25));
        landFault("days 1 ; person a tall 1 ; event a ;", fault(3, 33));
        landFault("days 1 ; event a ; prophet a plain purse 1 ;", fault(3, 27));
        landFault("days 1 ; prophet a plain purse 1 ; person a tall 1 ;", fault(3, 42));
        landFault("days 1 ; prophet a loud purse 1 ;", fault(1, 19));
        landFault("days 1 ; prophet a grand purse 999 ;", 0);
        landFault("days 1 ; prophet a grand purse 1000 ;", fault(4, 31));
        landFault("days 1 ; prophet a grand 1 ;", fault(1, 25));
        String start = "days 1 ; person p tall 1 ; event e ; prophet s plain purse 0 ; ";
        int at = start.length();
        landFault(start + "wish p for 1 p e ever ;", fault(2, at + 5));
        landFault(start + "wish law for 1 p e ever ;", fault(1, at + 5));
        landFault(start + "wish s four 1 p e ever ;", fault(1, at + 7));
        landFault(start + "wish s for 100 p e ever ;", fault(4, at + 11));
        landFault(start + "wish s for 99 p e ever ;", 0);
        landFault(start + "price 1 ; price 1 ;", fault(3, at + 10));
        landFault(start + "law p e ever ; price 1 + ;", fault(1, at + 25));
        landFault(start + "price p ;", fault(1, at + 6));
        landFault(start + "price 1 = 1 = 1 ;", fault(1, at + 12));
        landFault(start + "price 1 < 2 and 3 = 4 or not 1 ;", 0);
        landFault(start + "price ( 1 < 2 ) < 3 ;", 0);
        landFault(start + "price - 1 ;", fault(1, at + 6));
        landFault(start + "price 10000 ;", fault(1, at + 6));
        landFault(start + "price ( 1 ;", fault(1, at + 10));
    }

    private static void landLimits() {
        String people = "days 1 ; person a tall 1 ; person b tall 1 ; person c tall 1 ; person d tall 1 ; ";
        landFault(people, 0);
        landFault(people + "person", fault(5, people.length()));
        String events = "days 1 ; event a ; event b ; event c ; event d ; ";
        landFault(events, 0);
        landFault(events + "event", fault(5, events.length()));
        String prophets = "days 1 ; prophet a plain purse 0 ; prophet b plain purse 0 ; prophet c plain purse 0 ;"
            + " prophet d plain purse 0 ; prophet e plain purse 0 ; ";
        landFault(prophets, 0);
        landFault(prophets + "prophet a", fault(5, prophets.length()));
        String start = "days 1 ; event e ; prophet s plain purse 0 ; ";
        String laws = start + "law all e ever ;".repeat(4);
        landFault(laws, 0);
        landFault(laws + "law", fault(5, laws.length()));
        String wishes = start + "wish s for 1 all e ever ;".repeat(6);
        landFault(wishes, 0);
        landFault(wishes + "wish s", fault(5, wishes.length()));
        String most = "days 5 ; person a tall 1 ; person b tall 1 ; person c tall 1 ; event e ; event f ; ";
        due(3, "most futures", in(most).futures(0), 32768);
        String mostByPeople = "days 5 ; event e ; event f ; person a tall 1 ; person b tall 1 ; person c tall 1 ; ";
        due(3, "most futures", in(mostByPeople).futures(0), 32768);
        landFault(most + "person d tall 1 ;", fault(5, most.length()));
        landFault(most + "event g ;", fault(5, most.length()));
        String one = "days 6 ; person a tall 1 ; person b tall 1 ; person c tall 1 ; person d tall 1 ; event e ; ";
        due(3, "one event", in(one).futures(0), 1);
        landFault(one + "event f ;", fault(5, one.length()));
        due(3, "4 events", in("days 1 ; event a ; event b ; event c ; event d ; person p tall 1 ;").futures(0), 4);
    }

    private static void landFormulas() {
        String start = "days 2 ; person p tall 1 ; person q tall 1 ; event e ; law ";
        int at = start.length();
        landFault(start + "p e on 1 and q e by 2 or not ( some e from 1 ) ;", 0);
        landFault(start + "p e on 0 ;", fault(4, at + 7));
        landFault(start + "p e by 3 ;", fault(4, at + 7));
        landFault(start + "p e from 0 ;", fault(4, at + 9));
        landFault(start + "p e times 0 and p e most 2 ;", 0);
        landFault(start + "p e times 3 ;", fault(4, at + 10));
        landFault(start + "p e most 3 ;", fault(4, at + 9));
        landFault(start + "p e ever 1 ;", fault(1, at + 9));
        landFault(start + "p e never ; law p e most ;", fault(1, at + 25));
        landFault(start + "e e ever ;", fault(2, at));
        landFault(start + "on e ever ;", fault(1, at));
        landFault(start + "p q ever ;", fault(2, at + 2));
        landFault(start + "p on ever ;", fault(1, at + 2));
        landFault(start + "p e p ;", fault(1, at + 4));
        landFault(start + "together p q e ;", 0);
        landFault(start + "ahead q p e ;", 0);
        landFault(start + "ahead p p e ;", fault(3, at + 8));
        landFault(start + "together p some e ;", fault(1, at + 11));
        landFault(start + "together p e e ;", fault(2, at + 11));
        landFault(start + "together some p e ;", fault(1, at + 9));
        landFault(start + "together p q q ;", fault(2, at + 13));
        landFault(start + "together p q e on 1 ;", fault(1, at + 15));
        landFault(start + "( p e ever ;", fault(1, at + 11));
        landFault(start + "p e ever ) ;", fault(1, at + 9));
        landFault(start + "p e ever or ;", fault(1, at + 12));
        landFault(start + "not ;", fault(1, at + 4));
        landFault(start + "not not not not p e ever ;", 0);
        landFault(start + "not ( not ( p e ever ) ) ;", 0);
        landFault(start + "not not not not not p e ever ;", fault(5, at + 20));
        landFault(start + "( ( ( ( ( p e ever ) ) ) ) ) ;", fault(5, at + 10));
        landFault(start + "( ( ( ( ( ( p e ever", fault(5, at + 10));
        landFault(start + "not not not not not not p", fault(5, at + 20));
        landFault(start + "not not not not not some", fault(5, at + 20));
        landFault(start + "not not not not not ahead", fault(5, at + 20));
        landFault(start + "not not not not not z", fault(2, at + 20));
        landFault(start + "not not not not not on", fault(1, at + 20));
        landFault(start + "not not not not not", fault(1, at + 19));
        String price = "days 2 ; price ";
        at = price.length();
        landFault(price + "( ( ( ( 1 ) ) ) ) ;", 0);
        landFault(price + "( ( ( ( ( 1 ) ) ) ) ) ;", fault(5, at + 10));
        landFault(price + "not not not not not told ;", fault(5, at + 20));
        landFault(price + "not not not not not not", fault(5, at + 20));
        landFault(price + "not not not not not ;", fault(1, at + 20));
        landFault(price + "not not not not not z ;", fault(1, at + 20));
    }

    private static void landChanges() {
        AgreeTold told = in(LAND);
        told(told, "old ann sun on 1 ;");
        Texts.ask(told, "ann sun on 1 ;");
        told.come(0, 0);
        told.promise(0, 5);
        told.mark(2, false);
        due(3, "a fault", Texts.land(told, "days 9 ;"), fault(4, 5));
        int[] stay = {3, 2, 2, 5, 0, 0, 1, 1, 1, 1, 3, 0};
        for (int i = 0; i < stay.length; i++) {
            due(3, "all stays, count " + i, told.count(i), stay[i]);
        }
        due(3, "left stays", told.futures(2), 32);
        due(3, "another land", Texts.land(told, ONE_PERSON), 0);
        int[] begun = {3, 1, 2, 3, 0, 0, 0, 1, 0, 0, 0, 0};
        for (int i = 0; i < begun.length; i++) {
            due(3, "begun, count " + i, told.count(i), begun[i]);
        }
        due(3, "all are left", told.futures(2), 8);
        due(3, "no mark", told.mark(2, true), false);
        due(3, "nothing came", told.came(0, 1), NONE);
        due(3, "nothing can be undone", told.undo(), false);
        due(3, "purses", told.prophet(0, 1), 0);
        Texts.land(told, "days 2 ; law all e ever ;");
        due(3, "an event is to be told ahead", told.count(0), 3);
        AgreeTold later = in("days 1 ; event e ; event f ; law all e on 1 ; person p tall 1 ;");
        due(3, "a law holds for who comes behind it", later.futures(1), 1);
    }

    private static void tell() {
        AgreeTold told = in(LAND);
        due(4, "unknown", Texts.tell(told, "ann ann sun on 1 ;"), 2);
        due(4, "no name", Texts.tell(told, "not ann sun on 1 ;"), 1);
        due(4, "no end", Texts.tell(told, "old ann sun on 1 "), fault(1, 17));
        due(4, "more", Texts.tell(told, "old ann sun on 1 ; ;"), fault(1, 19));
        due(4, "day", Texts.tell(told, "old ann sun on 4 ;"), fault(4, 15));
        due(4, "nothing told", told.count(6), 0);
        due(4, "plain", Texts.tell(told, "old ann sun on 2 ;"), 0);
        due(4, "left", told.futures(2), 32);
        due(4, "vague", Texts.tell(told, "mist bob sun on 2 ;"), 0);
        due(4, "by day 2", told.futures(2), 24);
        due(4, "a fool", Texts.tell(told, "jest bob sun on 1 or bob sun on 2 ;"), NONE);
        due(4, "a fool", Texts.tell(told, "jest ann sun on 1 ;"), 0);
        due(4, "the contrary", told.word(0, 1, 0), 0);
        due(4, "names somebody", Texts.tell(told, "wind ann sun on 3 ;"), -2);
        due(4, "names somebody", Texts.tell(told, "wind all sun ever and ahead ann bob sun ;"), -2);
        due(4, "names somebody", Texts.tell(told, "wind together ann bob sun or some sun on 1 ;"), -2);
        due(4, "a fault first", Texts.tell(told, "wind ann sun on 3 )"), fault(1, 18));
        due(4, "nobody", Texts.tell(told, "wind not all sun on 3 ;"), 0);
        due(4, "no future", Texts.tell(told, "high ann rain on 2 ;"), NONE);
        due(4, "purse stays", told.prophet(3, 1), 999);
        due(4, "grand", Texts.tell(told, "high bob rain on 2 ;"), 0);
        due(4, "told", told.count(6), 5);
        for (int i = 5; i < 12; i++) {
            due(4, "again", Texts.tell(told, "old ann sun on 2 ;"), 0);
        }
        due(4, "a fault first", Texts.tell(told, "old ann sun"), fault(1, 11));
        due(4, "12 are told", Texts.tell(told, "old ann sun on 2 ;"), -3);
        due(4, "12 ahead of a name", Texts.tell(told, "wind ann sun on 2 ;"), -3);
        due(4, "12 ahead of none", Texts.tell(told, "old ann rain on 2 ;"), -3);
        due(4, "told", told.count(6), 12);
    }

    private static void tongue() {
        AgreeTold told = in(TWO_PEOPLE + "prophet old plain purse 0 ;");
        String[] formulas = {"ann sun on 2", "ann sun by 2", "ann sun from 2", "ann sun ever", "ann sun never",
            "ann sun times 2", "ann sun most 1", "some sun on 1", "all sun on 1", "some sun times 3", "all sun most 1",
            "together ann bob sun", "ahead ann bob sun", "not ann sun on 1", "ann sun on 1 or ann sun on 2 and ann sun on 3",
            "( ann sun on 1 or ann sun on 2 ) and ann sun on 3", "not ann sun on 1 and ann sun on 2", "all sun never",
            "some sun by 2", "all sun from 3", "not not not not ann sun times 0", "ann sun from 1", "ann sun by 3"};
        // 8 courses for ann times 8 for bob; ahead: ann first on day 1, 2, 3: 4 * 4 + 2 * 2 + 1 * 1
        int[] holding = {32, 48, 48, 56, 8, 24, 32, 48, 16, 15, 16, 37, 21, 32, 40, 24, 16, 1, 60, 16, 8, 56, 56};
        for (int i = 0; i < formulas.length; i++) {
            due(5, formulas[i], Texts.ask(told, formulas[i] + " ;"), 0);
            due(17, formulas[i], told.asked(0), holding[i]);
        }
        AgreeTold empty = in("days 1 ; event e ; prophet old plain purse 0 ;");
        due(4, "some of nobody", Texts.tell(empty, "old some e never ;"), NONE);
        due(4, "all of nobody", Texts.tell(empty, "old all e on 1 ;"), 0);
        AgreeTold vague = in(TWO_PEOPLE + "prophet v vague purse 0 ; prophet f fool purse 0 ;");
        told(vague, "v not ann sun on 2 ;");
        due(4, "on is by wherever it stands", vague.futures(2), 16);
        told(vague, "f ann sun from 3 and bob sun on 1 ;");
        due(4, "the contrary of it all", vague.futures(2), 12);
        told(vague, "v bob rain from 3 ;");
        due(4, "of on alone", vague.futures(2), 6);
    }

    private static void ask() {
        AgreeTold told = in(LAND);
        due(5, "nothing", told.count(9), 0);
        due(5, "a fault", Texts.ask(told, "ann sun on 9 ;"), fault(4, 11));
        due(5, "a prophet", Texts.ask(told, "old ann sun on 1 ;"), 2);
        due(5, "no end", Texts.ask(told, "ann sun ever"), fault(1, 12));
        due(5, "more", Texts.ask(told, "ann sun ever ; ann"), fault(1, 15));
        due(5, "all stays", told.count(9), 0);
        due(5, "asked", Texts.ask(told, "ann sun on 1 ;"), 0);
        due(5, "asked", told.count(9), 1);
        due(5, "the tape", told.count(11), 0);
        due(5, "a fault", Texts.ask(told, "ann sun ever ) ;"), fault(1, 13));
        due(5, "all stays", told.asked(0), 32);
        due(5, "another", Texts.ask(told, "ann sun on 1 and bob sun on 1 ;"), 0);
        due(5, "another", told.asked(0), 16);
        due(5, "can't be undone", told.count(10), 0);
    }

    private static void tallAndProphet() {
        AgreeTold told = in(LAND + " wish mist for 3 ann sun on 1 ; wish mist for 4 ann sun on 2 ; wish old for 0 all sun ever ;");
        due(6, "ann", told.tall(0), 50);
        due(6, "bob", told.tall(1), 80);
        due(6, "others", told.tall(2), NONE);
        due(6, "others", told.tall(-1), NONE);
        due(6, "others", told.tall(Integer.MAX_VALUE), NONE);
        for (int kind = 0; kind < 5; kind++) {
            due(7, "kind", told.prophet(kind, 0), kind);
        }
        due(7, "purse", told.prophet(0, 1), 7);
        due(7, "purse", told.prophet(3, 1), 999);
        due(7, "wishes", told.prophet(0, 3), 4);
        due(7, "wishes", told.prophet(1, 3), 3);
        due(7, "wishes", told.prophet(2, 3), 0);
        told(told, "old ann sun on 1 ;", "mist bob sun on 1 ;", "old ann sun on 1 ;");
        due(7, "sayings", told.prophet(0, 2), 5);
        due(7, "sayings", told.prophet(1, 2), 2);
        due(7, "sayings", told.prophet(4, 2), 0);
        due(7, "purse", told.prophet(0, 1), 39);
        due(7, "purse", told.prophet(1, 1), 16);
        int[][] others = {{-1, 0}, {5, 0}, {0, -1}, {0, 4}, {Integer.MIN_VALUE, 0}, {Integer.MAX_VALUE, 1}};
        for (int[] other : others) {
            due(7, "others", told.prophet(other[0], other[1]), NONE);
        }
    }

    private static void futuresAndSaying() {
        AgreeTold told = in(LAND + " law not all sun on 1 ; law ann rain ever ;");
        due(8, "at all", told.futures(0), 64);
        // day 1 without sun, sun: 3 of 4; of these ann's never rain: 1 * 4 of 16 with ann's sun on day 1
        due(8, "by the laws", told.futures(1), 44);
        due(8, "left", told.futures(2), 44);
        told(told, "old ann sun on 1 ;", "jest bob sun on 2 ;");
        due(8, "by the laws", told.futures(1), 44);
        due(8, "left", told.futures(2), 6);
        due(8, "others", told.futures(3), NONE);
        due(8, "others", told.futures(-1), NONE);
        due(9, "whose", told.saying(0, 0), 0);
        due(9, "whose", told.saying(1, 0), 2);
        due(9, "price", told.saying(0, 1), 32);
        due(9, "price", told.saying(1, 1), 6);
        due(9, "with the laws alone", told.saying(0, 2), 12);
        due(9, "with the laws alone", told.saying(1, 2), 22);
        due(9, "left when told", told.saying(0, 3), 12);
        due(9, "left when told", told.saying(1, 3), 6);
        told.come(0, 0);
        due(9, "left when told stays", told.saying(1, 3), 6);
        int[][] others = {{2, 0}, {-1, 0}, {0, 4}, {0, -1}, {12, 0}, {Integer.MAX_VALUE, 0}};
        for (int[] other : others) {
            due(9, "others", told.saying(other[0], other[1]), NONE);
        }
    }

    private static void price(String law, int... prices) {
        AgreeTold told = in(TWO_PEOPLE + "prophet old plain purse 0 ; " + law);
        String[] sayings = {"old ann sun on 1 ;", "old ann sun on 1 ;", "old bob sun on 1 ;"};
        int purse = 0;
        for (int i = 0; i < prices.length; i++) {
            told(told, sayings[i]);
            due(9, law, told.saying(i, 1), prices[i]);
            purse += prices[i];
        }
        due(4, "purse by " + law, told.prophet(0, 1), purse);
    }

    private static void prices() {
        price("", 1, 1, 1);
        price("price before ;", 64, 32, 32);
        price("price after ;", 32, 32, 16);
        price("price told ;", 0, 1, 2);
        price("price 100 ;", 99);
        price("price 0 - 1 ;", 0);
        price("price 2 + 3 * 4 ;", 14);
        price("price 20 - 3 - 4 ;", 13);
        price("price ( 2 + 3 ) * 4 ;", 20);
        price("price not 0 + not 7 ;", 1);
        price("price 5 < 6 ;", 1);
        price("price 6 < 5 ;", 0);
        price("price 1 + 1 = 2 ;", 1);
        price("price 7 and 9 ;", 1);
        price("price 0 or 9 ;", 1);
        // from the left: ( 1 or 1 ) and 0
        price("price 1 or 1 and 0 ;", 0);
        price("price 0 and 0 or 5 ;", 1);
        price("price not told * 50 + 3 ;", 53, 3, 3);
        // 2999400030 is beyond an int, and wraps to what is below 0
        price("price 9999 * 9999 * 30 < 0 ;", 1);
        AgreeTold many = in("days 5 ; person a tall 1 ; person b tall 1 ; person c tall 1 ; event e ; event f ;"
            + " prophet s plain purse 0 ; price ( before = 9999 ) + ( after = 9999 ) * 2 + before - after ;");
        told(many, "s a e on 1 ;");
        due(9, "9,999 at most", many.saying(0, 1), 3);
        told(many, "s b e on 1 ;");
        due(9, "9,999 at most", many.saying(1, 1), 99);
        due(9, "left", many.saying(1, 3), 8192);
    }

    private static void strike() {
        AgreeTold told = in(LAND);
        told(told, "old ann sun on 1 ;", "high bob sun on 1 ;", "mist ann rain on 2 ;");
        due(10, "grand", told.strike(1), false);
        due(10, "others", told.strike(3), false);
        due(10, "others", told.strike(-1), false);
        due(10, "others", told.strike(Integer.MIN_VALUE), false);
        due(10, "nothing happened", told.count(10), 3);
        due(10, "struck", told.strike(0), true);
        due(10, "told", told.count(6), 2);
        due(10, "those behind move up", told.saying(0, 0), 3);
        due(10, "those behind move up", told.saying(1, 0), 1);
        due(10, "how many were left then", told.saying(1, 3), 8);
        due(10, "left", told.futures(2), 24);
        due(10, "the purse keeps it", told.prophet(0, 1), 39);
        due(10, "it can be undone", told.count(10), 4);
        told.undo();
        due(10, "undone", told.saying(0, 0), 0);
        due(10, "undone", told.futures(2), 8);
    }

    private static void come() {
        AgreeTold told = in(LAND);
        told(told, "old ann sun on 1 ;", "old bob rain on 3 ;");
        due(11, "barred", told.come(0, 1), false);
        due(11, "others", told.come(2, 0), false);
        due(11, "others", told.come(-1, 0), false);
        due(11, "others", told.come(0, 2), false);
        due(11, "others", told.come(0, -1), false);
        due(12, "none yet", told.came(0, 1), NONE);
        due(11, "ann", told.come(0, 0), true);
        due(11, "ann has one", told.come(0, 0), false);
        due(34, "today", told.count(7), 1);
        due(8, "left", told.futures(2), 16);
        due(11, "bob", told.come(1, 1), true);
        due(34, "the next day", told.count(7), 2);
        due(8, "left", told.futures(2), 8);
        due(12, "ann", told.came(0, 1), 0);
        due(12, "bob", told.came(1, 1), 1);
        due(12, "none yet", told.came(1, 2), NONE);
        due(12, "others", told.came(2, 1), NONE);
        due(12, "others", told.came(-1, 1), NONE);
        due(12, "others", told.came(0, 0), NONE);
        due(12, "others", told.came(0, 4), NONE);
        due(12, "others", told.came(0, 7), NONE);
        due(11, "bob first", told.come(1, 0), true);
        due(11, "ann", told.come(0, 0), true);
        due(11, "ann", told.come(0, 1), true);
        due(11, "bob: barred", told.come(1, 0), false);
        due(11, "bob", told.come(1, 1), true);
        due(34, "over", told.count(7), 4);
        due(11, "over", told.come(0, 0), false);
        due(8, "one is left", told.futures(2), 1);
        due(14, "undone", told.undo(), true);
        due(34, "the last day again", told.count(7), 3);
        due(12, "undone", told.came(1, 3), NONE);
        due(8, "one is left", told.futures(2), 1);
        due(4, "what came bars", Texts.tell(told, "jest ann rain on 3 ;"), NONE);
        told.strike(0);
        due(8, "what came stays", told.word(0, 1, 0), 1);
        AgreeTold longest = in("days 6 ; person p tall 1 ; event e ; event f ;");
        for (int day = 1; day <= 6; day++) {
            due(11, "day " + day, longest.come(0, day % 2), true);
            due(12, "day " + day, longest.came(0, day), day % 2);
            due(34, "the day behind " + day, longest.count(7), day + 1);
            due(8, "left behind " + day, longest.futures(2), 64 >> day);
        }
        due(11, "over", longest.come(0, 0), false);
        AgreeTold crowd = in("days 1 ; person a tall 1 ; person b tall 1 ; person c tall 1 ; person d tall 1 ; event e ; event f ;");
        for (int person = 3; person >= 0; person--) {
            due(34, "today", crowd.count(7), 1);
            due(11, "person " + person, crowd.come(person, 1), true);
        }
        due(34, "over", crowd.count(7), 2);
    }

    private static void promiseAndUndo() {
        AgreeTold told = in(LAND);
        due(13, "others", told.promise(-1, 5), NONE);
        due(13, "others", told.promise(2, 5), NONE);
        due(13, "others", told.promise(0, -1), NONE);
        due(13, "others", told.promise(0, 100), NONE);
        due(13, "none", told.count(10), 0);
        for (int i = 1; i <= 20; i++) {
            due(13, "promise", told.promise(i % 2, i == 1 ? 0 : 99), i);
        }
        due(13, "20 are there", told.promise(0, 5), NONE);
        due(34, "promises", told.count(8), 20);
        due(14, "the last 16", told.count(10), 16);
        for (int i = 19; i >= 4; i--) {
            due(14, "undo", told.undo(), true);
            due(14, "promises", told.count(8), i);
        }
        due(14, "nothing", told.undo(), false);
        due(14, "promises", told.count(8), 4);
        told(told, "old ann sun on 1 ;", "mist bob sun on 1 ;");
        Texts.ask(told, "ann sun on 1 ;");
        told.come(0, 0);
        told.strike(0);
        due(14, "each counts", told.count(10), 4);
        due(14, "strike", told.undo(), true);
        due(14, "sayings", told.count(6), 2);
        due(14, "left", told.futures(2), 16);
        due(14, "come", told.undo(), true);
        due(14, "came", told.came(0, 1), NONE);
        due(14, "tell", told.undo(), true);
        due(14, "sayings", told.count(6), 1);
        due(14, "left", told.futures(2), 32);
        due(14, "purse", told.prophet(1, 1), 0);
        due(14, "purse", told.prophet(0, 1), 39);
        due(14, "asked stays", told.count(9), 1);
        due(14, "tell", told.undo(), true);
        due(14, "purse", told.prophet(0, 1), 7);
        due(14, "nothing", told.undo(), false);
        due(14, "left", told.futures(2), 64);
    }

    private static void words() {
        AgreeTold told = in(LAND);
        due(15, "open", told.word(0, 1, 0), 2);
        due(16, "open", told.holds(0, 1, 0), 32);
        told(told, "old ann sun on 1 and ( bob sun on 2 or bob sun on 3 ) ;");
        due(15, "sure", told.word(0, 1, 0), 1);
        due(15, "barred", told.word(0, 1, 1), 0);
        due(15, "open", told.word(1, 2, 0), 2);
        due(16, "sure", told.holds(0, 1, 0), 24);
        due(16, "barred", told.holds(0, 1, 1), 0);
        due(16, "open", told.holds(1, 2, 0), 16);
        due(16, "open", told.holds(1, 2, 1), 8);
        int[][] others = {{-1, 1, 0}, {2, 1, 0}, {0, 0, 0}, {0, 4, 0}, {0, 1, -1}, {0, 1, 2},
            {Integer.MAX_VALUE, 1, 0}, {0, Integer.MIN_VALUE, 0}, {0, 1, Integer.MIN_VALUE}};
        for (int[] other : others) {
            due(15, "others", told.word(other[0], other[1], other[2]), NONE);
            due(16, "others", told.holds(other[0], other[1], other[2]), NONE);
            due(20, "others", told.making(other[0], other[1], other[2], NONE), NONE);
            due(24, "others", first(told, other[0], other[1], other[2]), -99);
        }
        AgreeTold nothing = in(TWO_PEOPLE + "law ann sun on 1 ; law ann rain on 1 ;");
        due(8, "nothing is left", nothing.futures(2), 0);
        due(15, "nothing is left", nothing.word(0, 1, 0), NONE);
        due(16, "nothing is left", nothing.holds(0, 1, 0), 0);
        due(21, "nothing is left", nothing.widest(false), NONE);
        due(31, "nothing is left", nothing.fair(1, 0, 1), NONE);
        due(11, "nothing is left", nothing.come(1, 0), false);
        due(20, "nothing is left", nothing.making(0, 1, 0, NONE), NONE);
        due(22, "nothing is left", nothing.vague(0, 0, 0), NONE);
    }

    private static int first(AgreeTold told, int person, int day, int event) {
        try {
            return told.first(person, day, event);
        } catch (NoSuchElementException thrown) {
            return -99;
        }
    }

    private static void asked() {
        AgreeTold told = in(LAND);
        due(17, "nothing is asked", told.asked(0), NONE);
        due(18, "nothing is asked", told.why(), NONE);
        due(19, "nothing is asked", told.struck(), NONE);
        Texts.ask(told, "ann sun on 1 and bob sun on 1 ;");
        due(17, "how many", told.asked(0), 16);
        due(17, "open", told.asked(1), 2);
        due(17, "others", told.asked(2), NONE);
        due(17, "others", told.asked(-1), NONE);
        due(18, "not barred", told.why(), NONE);
        due(19, "it may be", told.struck(), 0);
        told(told, "old ann sun on 1 ;", "old bob sun on 1 ;");
        due(17, "sure", told.asked(1), 1);
        due(17, "how many", told.asked(0), 16);
        due(18, "sure", told.why(), NONE);
        told.strike(1);
        told(told, "jest bob sun on 1 ;");
        due(17, "barred", told.asked(1), 0);
        due(17, "how many", told.asked(0), 0);
        due(18, "by the fool's", told.why(), 2);
        due(19, "by the fool's", told.struck(), 2);
    }

    private static void why() {
        AgreeTold told = in(ONE_PERSON);
        told(told, "s p e on 1 or p e on 2 ;", "s p f on 1 or p f on 2 ;", "s p f on 1 or p e on 3 ;");
        // of 1, 2: left are (e f x) (f e x); with 3: (e f e) (f e x)
        Texts.ask(told, "p e on 1 and p f on 3 ;");
        due(18, "alone", told.why(), 4);
        due(19, "alone", told.struck(), 4);
        Texts.ask(told, "p e times 3 ;");
        due(18, "the second alone", told.why(), 2);
        Texts.ask(told, "p f times 3 ;");
        due(18, "the first alone", told.why(), 1);
        Texts.ask(told, "p e on 1 and p e on 2 or p f on 1 and p f on 2 ;");
        due(18, "two", told.why(), 3);
        due(19, "of equal ones the least", told.struck(), 1);
        told(told, "g p e on 1 ;");
        // left is (e f e); asked now bars by more than one way
        Texts.ask(told, "p f on 1 ;");
        due(18, "the grand one's", told.why(), 8);
        due(19, "no grand one's", told.struck(), NONE);
        Texts.ask(told, "p e on 2 ;");
        due(18, "the second and the grand one's", told.why(), 10);
        due(19, "the second", told.struck(), 2);
        AgreeTold lawful = in(ONE_PERSON + "law p e on 1 ;");
        told(lawful, "s p e on 2 ;");
        Texts.ask(lawful, "p f on 1 ;");
        due(18, "by the laws alone", lawful.why(), 0);
        due(19, "it can't be", lawful.struck(), NONE);
        lawful.come(0, 0);
        lawful.come(0, 0);
        Texts.ask(lawful, "p f on 2 ;");
        due(18, "by what came", lawful.why(), 0);
        due(19, "by what came", lawful.struck(), NONE);
    }

    private static void making() {
        AgreeTold told = in(ONE_PERSON);
        due(20, "it can't be", told.making(0, 1, 0, NONE), NONE);
        told(told, "s p e most 1 ;");
        due(20, "one", told.making(0, 1, 1, NONE), 1);
        due(20, "the first", told.making(0, 1, 1, 0), 16);
        due(20, "one alone", told.making(0, 1, 1, 1), NONE);
        due(20, "others", told.making(0, 1, 1, 2), NONE);
        due(20, "others", told.making(0, 1, 1, -2), NONE);
        told(told, "s p e ever ;");
        due(20, "two", told.making(0, 3, 0, NONE), 2);
        due(20, "the lesser", told.making(0, 3, 0, 0), 1);
        due(20, "the greater", told.making(0, 3, 0, 1), 17);
        due(20, "not by itself", told.making(0, 2, 0, 0), 1);
        due(20, "not by itself", told.making(0, 2, 0, 1), 33);
        AgreeTold pair = in(ONE_PERSON + "law not ( p e on 1 and p e on 2 ) or p e on 3 ;");
        due(20, "two, from the least word on", pair.making(0, 3, 0, NONE), 2);
        due(20, "two, from the least word on", pair.making(0, 3, 0, 0), 0);
        due(20, "two, from the least word on", pair.making(0, 3, 0, 1), 16);
        told(told, "s p e on 1 ;");
        due(20, "sure", told.making(0, 1, 0, NONE), 0);
        due(20, "sure", told.making(0, 1, 0, 0), NONE);
        due(20, "barred", told.making(0, 1, 1, NONE), NONE);
        due(20, "sure", told.making(0, 3, 1, NONE), 0);
    }

    private static void widestAndVague() {
        AgreeTold told = in(ONE_PERSON);
        due(21, "widest of equal ones", told.widest(false), 0);
        due(21, "narrowest of equal ones", told.widest(true), 0);
        told(told, "s p e on 2 or p e on 3 ;");
        // 6 left: words of day 1 leave 3, e on day 2 or 3 leave 4, f there 2
        due(21, "widest", told.widest(false), 16);
        due(21, "narrowest", told.widest(true), 17);
        due(22, "vague", told.vague(0, 0, 0), 4);
        due(22, "vague", told.vague(0, 0, 1), 5);
        due(22, "others", told.vague(0, 0, 2), NONE);
        due(22, "others", told.vague(0, 0, -1), NONE);
        due(22, "others", told.vague(1, 0, 0), NONE);
        due(22, "others", told.vague(-1, 0, 0), NONE);
        due(22, "others", told.vague(0, 2, 0), NONE);
        due(22, "others", told.vague(0, -1, 0), NONE);
        told(told, "s p e times 3 ;");
        due(21, "none is open", told.widest(false), NONE);
        due(21, "none is open", told.widest(true), NONE);
        due(22, "none is open", told.vague(0, 0, 0), NONE);
        due(22, "none is open", told.vague(0, 0, 1), NONE);
        AgreeTold one = in("days 1 ; person p tall 1 ; event e ; event f ;");
        due(22, "on 1 first", one.vague(0, 1, 0), 0);
        AgreeTold times = in("days 2 ; person p tall 1 ; event e ; event f ; law p e ever ; law p e from 2 ; law p e on 2 ;");
        // e e or f e: on 1 leaves one, on 2 is sure; by 1, then times 1 and 2 are behind it
        due(22, "open ones alone", times.vague(0, 0, 0), 0);
        due(22, "open ones alone", times.vague(0, 0, 1), 1);
        AgreeTold counted = in("days 3 ; person p tall 1 ; event e ; event f ;"
            + " law p e on 1 and p e on 3 or p f times 3 or p e on 2 and p f on 1 and p f on 3 ;");
        // e e e, e f e, f f f, f e f: ever leaves 3, by 2 too, and so does by 3
        due(22, "the first of equal ones", counted.vague(0, 0, 0), 4);
        AgreeTold never = in("days 2 ; person p tall 1 ; event e ; event f ; event g ; law p e on 1 and p e on 2 or p e never ;");
        // e e and four without e: never leaves 4
        due(22, "never", never.vague(0, 0, 0), 7);
        due(22, "never", never.vague(0, 0, 1), 4);
        AgreeTold twice = in("days 3 ; person p tall 1 ; event e ; event f ; law p e times 1 or p e times 2 ; law p e on 1 or p e on 3 ;");
        due(22, "on day 2 and the others", twice.vague(0, 1, 0), 4);
    }

    private static void spanFirstKnew() {
        AgreeTold told = in(ONE_PERSON);
        due(23, "from day 1", told.span(0, 0, 0), 1);
        due(23, "not sure", told.span(0, 0, 1), NONE);
        told(told, "v p f on 1 ;", "s p e ever ;", "s p f on 3 ;");
        // day 1 is f, day 2 e, day 3 f
        due(23, "may be", told.span(0, 0, 0), 2);
        due(23, "must have been", told.span(0, 0, 1), 2);
        due(23, "may be", told.span(0, 1, 0), 1);
        due(23, "must have been", told.span(0, 1, 1), 1);
        due(23, "others", told.span(0, 0, 2), NONE);
        due(23, "others", told.span(0, 0, -1), NONE);
        due(23, "others", told.span(1, 0, 0), NONE);
        due(23, "others", told.span(0, 2, 1), NONE);
        due(24, "by the first", first(told, 0, 1, 1), 0);
        due(24, "by the third", first(told, 0, 2, 0), 2);
        due(24, "not sure", first(told, 0, 2, 1), NONE);
        due(25, "vague", told.knew(1, 0), 4);
        due(25, "plain", told.knew(0, 0), 3);
        due(25, "grand", told.knew(2, 0), 8);
        due(25, "none is known", told.knew(1, 1), 0);
        told(told, "g p f ever and p f from 2 ;", "v p f on 3 ;", "g p e most 2 ;");
        due(25, "by plain: f on 3 and e", told.knew(0, 1), 0b111000);
        due(25, "others", told.knew(0, 2), NONE);
        due(25, "others", told.knew(0, -1), NONE);
        due(25, "others", told.knew(3, 0), NONE);
        due(25, "others", told.knew(-1, 0), NONE);
        AgreeTold never = in(ONE_PERSON + "law p e on 1 ;");
        told(never, "s p e never or p e most 1 ;");
        due(23, "never", never.span(0, 0, 0), 1);
        due(24, "by the laws", first(never, 0, 1, 0), -2);
        never.come(0, 0);
        never.come(0, 1);
        due(24, "by what came", first(never, 0, 2, 1), -2);
        due(25, "what came is not known", never.knew(0, 0), 1);
        due(25, "the laws are", never.knew(1, 0), 4);
        AgreeTold barred = in(ONE_PERSON + "law p e never ;");
        due(23, "never", barred.span(0, 0, 0), NONE);
        due(23, "never", barred.span(0, 0, 1), NONE);
    }

    private static void wishes() {
        String five = TWO_PEOPLE + FIVE_PROPHETS + "wish old for 9 ann sun on 1 ; wish mist for 5 bob sun on 2 ;"
            + " wish jest for 5 ann rain on 1 ; wish wind for 50 ann sun on 1 ; wish wind for 3 all rain on 1 ;"
            + " wish high for 0 bob rain ever ;";
        AgreeTold told = in(five);
        due(26, "whose", told.wish(0, 0), 0);
        due(26, "whose", told.wish(5, 0), 3);
        due(26, "coins", told.wish(3, 1), 50);
        due(26, "coins", told.wish(5, 1), 0);
        int[] holding = {32, 48, 32, 0, 16, 56};
        for (int i = 0; i < holding.length; i++) {
            due(26, "as it is told " + i, told.wish(i, 2), holding[i]);
        }
        due(26, "others", told.wish(6, 0), NONE);
        due(26, "others", told.wish(-1, 0), NONE);
        due(26, "others", told.wish(0, 3), NONE);
        due(26, "others", told.wish(0, -1), NONE);
        due(27, "coins", told.auction(0), 19);
        due(27, "wishes", told.auction(1), 7);
        due(27, "others", told.auction(2), NONE);
        due(27, "others", told.auction(-1), NONE);
        told(told, "old bob sun on 3 ;", "jest ann sun on 1 ;");
        due(26, "of those left", told.wish(0, 2), 0);
        due(27, "coins", told.auction(0), 8);
        due(27, "wishes", told.auction(1), 18);
        AgreeTold equal = in(ONE_PERSON + "wish s for 2 p e on 1 ; wish s for 2 p e on 2 ; wish s for 4 p f on 1 and p f on 2 ;"
            + " wish s for 4 p f on 1 and p e on 2 ;");
        // 0 and 1: 4; 2: 4; 1 and 3: 6
        due(27, "coins", equal.auction(0), 6);
        due(27, "wishes", equal.auction(1), 10);
        AgreeTold fewest = in(ONE_PERSON + "wish s for 2 p e on 1 ; wish s for 2 p e on 2 ; wish s for 4 p f on 1 and p f on 2 ;"
            + " wish s for 4 p f on 1 and p f on 2 ; law not ( p f on 1 and p f on 2 and p f on 3 ) ; wish g for 0 p e on 3 ;");
        due(27, "both", fewest.auction(0), 8);
        due(27, "the fewest", fewest.auction(1), 12);
        AgreeTold least = in(ONE_PERSON + "wish s for 4 p e on 1 ; wish s for 2 p f on 1 and p e on 2 ; wish s for 2 p f on 1 ;");
        due(27, "the fewest of equal ones", least.auction(1), 1);
        AgreeTold sets = in(ONE_PERSON + "wish s for 3 p e on 1 ; wish s for 3 p f on 1 ; wish s for 2 p e on 2 ; wish s for 2 p f on 2 ;");
        // 0 with 2, 0 with 3, 1 with 2, 1 with 3: five coins each
        due(27, "coins", sets.auction(0), 5);
        due(27, "the least set of equal ones", sets.auction(1), 5);
        AgreeTold none = in(ONE_PERSON + "wish s for 0 p e on 1 ;");
        due(27, "no coins", none.auction(1), 0);
    }

    private static void duel() {
        AgreeTold told = in(ONE_PERSON + "wish s for 1 p e on 1 ; wish v for 1 p f never ; wish v for 1 p e never ;"
            + " wish s for 1 p e on 2 or p f on 2 ;");
        // s by 0: v tells 1 (e always), s tells 3: v can't. s by 0, then 2 is barred. So 0 wins
        due(28, "he wins", told.duel(0, 1, 0), 1);
        due(28, "by the least", told.duel(0, 1, 1), 0);
        // v by 1 or by 2: s tells 3, and the other one of v's is barred
        due(28, "the other wins", told.duel(1, 0, 0), 0);
        due(28, "the other wins", told.duel(1, 0, 1), NONE);
        AgreeTold second = in(ONE_PERSON + "wish s for 1 p e on 1 ; wish v for 1 p f never ; wish s for 1 p f on 2 ;");
        // s by 0: v tells 1, and 2 is barred; s by 2: 1 is barred
        due(28, "he wins", second.duel(0, 1, 0), 1);
        due(28, "by another than the least", second.duel(0, 1, 1), 2);
        due(28, "nothing to tell", told.duel(2, 0, 0), 0);
        due(28, "nothing to tell", told.duel(2, 0, 1), NONE);
        due(28, "against nothing", told.duel(0, 2, 1), 0);
        int[][] others = {{0, 0, 0}, {-1, 0, 0}, {0, 3, 0}, {3, 0, 1}, {0, 1, 2}, {0, 1, -1}, {0, -1, 0}};
        for (int[] other : others) {
            due(28, "others", told.duel(other[0], other[1], other[2]), NONE);
        }
        told(told, "g p f on 1 ;");
        // 0 and 1 are barred now; s: 3, v: 2 agree; who begins loses
        due(28, "who begins loses", told.duel(0, 1, 0), 0);
        due(28, "who begins loses", told.duel(0, 1, 1), NONE);
        due(28, "who begins loses", told.duel(1, 0, 0), 0);
    }

    private static void promises() {
        AgreeTold told = in("days 2 ; person a tall 50 ; person b tall 80 ; person c tall 80 ; event e ; event f ;");
        due(29, "nothing", told.kept(), 0);
        due(30, "nothing", told.shorted(), NONE);
        told.promise(1, 80);
        told.promise(1, 80);
        due(29, "by c on both days", told.kept(), 2);
        told.promise(1, 80);
        due(29, "b keeps none to himself", told.kept(), 2);
        due(30, "b and c on two days", told.shorted(), NONE);
        told.promise(0, 80);
        told.promise(2, 70);
        due(29, "b keeps two", told.kept(), 4);
        due(30, "70 and more: 5 of 4", told.shorted(), 70);
        told.promise(1, 51);
        due(30, "the greatest", told.shorted(), 70);
        told.promise(0, 80);
        due(30, "80: 5 of 4", told.shorted(), 80);
        due(29, "b and c on two days", told.kept(), 4);
        told.promise(2, 50);
        told.promise(2, 0);
        told.promise(2, 0);
        due(29, "a too", told.kept(), 6);
        told.promise(0, 90);
        due(30, "nobody is so tall", told.shorted(), 90);
        for (int i = 0; i < 3; i++) {
            told.come(i, 0);
        }
        due(29, "one day is left", told.kept(), 3);
        for (int i = 0; i < 3; i++) {
            told.come(i, 0);
        }
        due(29, "no day is left", told.kept(), 0);
        due(30, "no day is left", told.shorted(), 90);
    }

    private static void draws() {
        AgreeTold told = in(ONE_PERSON);
        // seed 1: g = 1103527590, 16838 mod 8 = 6: f f e
        due(31, "day 1", told.fair(1, 0, 1), 1);
        due(31, "day 2", told.fair(1, 0, 2), 1);
        due(31, "day 3", told.fair(1, 0, 3), 0);
        told(told, "s p e on 1 ;");
        // 16838 mod 4 = 2 of e e e, e e f, e f e, e f f
        due(31, "day 1", told.fair(1, 0, 1), 0);
        due(31, "day 2", told.fair(1, 0, 2), 1);
        due(31, "day 3", told.fair(1, 0, 3), 0);
        // seed 0: 12345 / 65536 is 0
        due(31, "seed 0", told.fair(0, 0, 3), 0);
        int[][] others = {{-1, 0, 1}, {10000, 0, 1}, {1, -1, 1}, {1, 1, 1}, {1, 0, 0}, {1, 0, 4}};
        for (int[] other : others) {
            due(31, "others", told.fair(other[0], other[1], other[2]), NONE);
        }
        due(31, "the last seed", told.fair(9999, 0, 1), 0);
        due(31, "no event", in("days 1 ; person p tall 1 ;").fair(1, 0, 1), NONE);
    }

    private static void year() {
        // draws by seed 1: 16838, 5758, 10113, 17515, 31051, 5627, 23010, 7419
        String land = "days 3 ; person p tall 9 ; person q tall 9 ; event e ; event f ; ";
        AgreeTold plain = in(land + "prophet s plain purse 0 ; prophet v plain purse 0 ;");
        // turn 1: prophet 0, day 2 (5758 mod 3 = 1), person 1, event 1; turn 2: prophet 1, day 3, person 0, event 1
        due(32, "told", plain.year(1, 2, 0), 2);
        due(32, "left", plain.year(1, 2, 1), 16);
        due(32, "the first of equal ones", plain.year(1, 2, 2), 0);
        // seed 0: 0, 21468, 9988, 22117: p f on 1
        due(32, "seed 0", plain.year(0, 1, 0), 1);
        due(32, "seed 0", plain.year(0, 1, 1), 32);
        due(32, "all is as ahead", plain.futures(2), 64);
        due(32, "all is as ahead", plain.count(6), 0);
        due(32, "all is as ahead", plain.count(10), 0);
        AgreeTold vague = in(land + "prophet s vague purse 0 ; prophet v vague purse 0 ;");
        due(32, "by the day", vague.year(1, 1, 1), 48);
        AgreeTold fool = in(land + "prophet s fool purse 0 ; prophet v fool purse 0 ;");
        told(fool, "s q f on 2 ;");
        due(32, "the contrary", fool.year(1, 1, 1), 32);
        due(32, "the contrary", fool.year(1, 1, 0), 1);
        told(fool, "s p f on 3 ;");
        due(32, "what was told is not counted", fool.year(1, 2, 0), 2);
        due(32, "left", fool.year(1, 2, 1), 16);
        AgreeTold weather = in(land + "prophet s weather purse 0 ; prophet v grand purse 0 ;");
        due(32, "some", weather.year(1, 1, 1), 48);
        due(32, "grand", weather.year(1, 2, 1), 24);
        AgreeTold barred = in(land + "prophet s plain purse 0 ; prophet v plain purse 0 ; law q e on 2 ;");
        due(32, "barred", barred.year(1, 2, 0), 1);
        due(32, "by whom most", barred.year(1, 2, 2), 1);
        due(32, "none told: the first", barred.year(1, 1, 2), 0);
        due(32, "none told", barred.year(1, 1, 1), 32);
        int[][] others = {{-1, 1, 0}, {10000, 1, 0}, {1, 0, 0}, {1, 61, 0}, {1, 1, 3}, {1, 1, -1}};
        for (int[] other : others) {
            due(32, "others", plain.year(other[0], other[1], other[2]), NONE);
        }
        due(32, "no prophet", in(land).year(1, 1, 0), NONE);
        due(32, "no person", in("days 1 ; event e ; prophet s plain purse 0 ;").year(1, 1, 0), NONE);
        due(32, "no event", in("days 1 ; person e tall 1 ; prophet s plain purse 0 ;").year(1, 1, 0), NONE);
        AgreeTold many = in("days 1 ; person p tall 1 ; event e ; prophet s plain purse 0 ;");
        due(32, "as many as one likes", many.year(9999, 60, 0), 60);
    }

    private static void marks() {
        AgreeTold told = in(LAND);
        due(33, "nothing is on it", told.mark(0, true), false);
        due(33, "none such", told.mark(-1, false), false);
        due(33, "none such", told.mark(4, false), false);
        due(33, "none such", told.mark(4, true), false);
        told(told, "old ann sun on 1 ;");
        Texts.ask(told, "ann sun on 1 ;");
        told.come(1, 0);
        told.promise(0, 5);
        due(33, "laid", told.mark(3, false), true);
        due(33, "what can be undone stays", told.count(10), 3);
        told.strike(0);
        told.come(0, 1);
        told.promise(0, 6);
        Texts.ask(told, "ann rain on 1 and bob rain on 3 ;");
        told(told, "mist bob rain on 3 ;");
        due(33, "another", told.mark(0, false), true);
        due(33, "back", told.mark(3, true), true);
        int[] counts = {3, 2, 2, 5, 0, 0, 1, 1, 1, 1, 0, 0};
        for (int i = 0; i < counts.length; i++) {
            due(33, "count " + i, told.count(i), counts[i]);
        }
        due(33, "left", told.futures(2), 16);
        due(33, "asked", told.asked(0), 16);
        due(33, "came", told.came(0, 1), NONE);
        due(33, "purse", told.prophet(1, 1), 0);
        due(33, "nothing can be undone", told.undo(), false);
        due(33, "the mark stays", told.mark(3, true), true);
        due(33, "the other mark", told.mark(0, true), true);
        due(33, "today", told.count(7), 2);
        // ann's two days are free, bob has rain on one of his at least
        due(33, "left", told.futures(2), 12);
        due(33, "asked", told.asked(0), 8);
        due(33, "promises", told.count(8), 2);
        AgreeTold empty = in(LAND);
        empty.mark(1, false);
        Texts.ask(empty, "ann sun on 1 ;");
        empty.mark(1, true);
        due(33, "nothing was asked", empty.count(9), 0);
    }

    private static void count() {
        AgreeTold told = in(LAND + " law not all sun on 1 ; wish old for 1 all rain ever ;");
        int[] counts = {3, 2, 2, 5, 1, 1, 0, 1, 0, 0, 0, 0};
        for (int i = 0; i < counts.length; i++) {
            due(34, "count " + i, told.count(i), counts[i]);
        }
        told(told, "old ann rain on 1 ;");
        told.come(0, 1);
        told.come(1, 1);
        told.promise(0, 1);
        Texts.ask(told, "ann rain on 1 ;");
        Texts.feed(told, "some signs");
        int[] later = {3, 2, 2, 5, 1, 1, 1, 2, 1, 1, 4, 10};
        for (int i = 0; i < later.length; i++) {
            due(34, "count " + i, told.count(i), later[i]);
        }
        due(34, "others", told.count(-1), NONE);
        due(34, "others", told.count(12), NONE);
        due(34, "others", told.count(Integer.MAX_VALUE), NONE);
    }

    public static void main(String[] args) {
        newObject();
        feed();
        landTokens();
        landLines();
        landLimits();
        landFormulas();
        landChanges();
        tell();
        tongue();
        ask();
        tallAndProphet();
        futuresAndSaying();
        prices();
        strike();
        come();
        promiseAndUndo();
        words();
        asked();
        why();
        making();
        widestAndVague();
        spanFirstKnew();
        wishes();
        duel();
        promises();
        draws();
        year();
        marks();
        count();
        if (wrong > 0) {
            System.exit(1);
        }
        System.out.println("all promises hold");
    }
}
