/** The edges of clauses, of sayings by kinds of prophets and of prices, and of promises 4, 5 and 9. */
public final class TongueEdgesTest {
    private static final String PROPHETS = "prophet s plain purse 0 ; prophet v vague purse 0 ; prophet j fool purse 0 ;"
        + " prophet g grand purse 0 ; prophet w weather purse 0 ; ";
    /** 16 futures. */
    private static final String TWO = "days 2 ; person p tall 1 ; person q tall 2 ; event e ; event f ; " + PROPHETS;
    /** 8 futures. */
    private static final String ONE = "days 3 ; person p tall 1 ; event e ; event f ; " + PROPHETS;

    private TongueEdgesTest() {
    }

    private static void holding(String land, String formula, int want) {
        AgreeTold told = Edges.in(land);
        Edges.asks(told, formula);
        Edges.due("asked(0) of " + formula, told.asked(0), want);
    }

    private static void left(String land, String saying, int want) {
        AgreeTold told = Edges.in(land);
        Edges.told(told, saying);
        Edges.due("futures(2) by " + saying, told.futures(2), want);
        Edges.due("saying(0, 2) of " + saying, told.saying(0, 2), want);
        Edges.due("saying(0, 3) of " + saying, told.saying(0, 3), want);
    }

    private static void onePerson() {
        Edges.sentence("on that day; on a day up to it; on that day or later; on some day; on none; on just so many; on so many at most");
        String[] whens = {"on 1", "on 2", "by 1", "by 2", "from 1", "from 2", "ever", "never", "times 0", "times 1", "times 2",
            "most 0", "most 1", "most 2"};
        int[] one = {8, 8, 8, 12, 12, 8, 12, 4, 4, 8, 4, 4, 12, 16};
        for (int i = 0; i < whens.length; i++) {
            holding(TWO, "p e " + whens[i], one[i]);
            holding(TWO, "q f " + whens[i], one[i]);
            holding(TWO, "not q e " + whens[i], 16 - one[i]);
        }
        Edges.sentence("Of some: one PERSON at least has it so; of all: each");
        int[] some = {12, 12, 12, 15, 15, 12, 15, 7, 7, 12, 7, 7, 15, 16};
        int[] all = {4, 4, 4, 9, 9, 4, 9, 1, 1, 4, 1, 1, 9, 16};
        for (int i = 0; i < whens.length; i++) {
            holding(TWO, "some e " + whens[i], some[i]);
            holding(TWO, "all f " + whens[i], all[i]);
        }
        String day = "days 1 ; person p tall 1 ; event e ; event f ; event h ; " + PROPHETS;
        int[] single = {1, 1, 1, 1, 2, 2, 1, 2, 3};
        String[] onDay = {"on 1", "by 1", "from 1", "ever", "never", "times 0", "times 1", "most 0", "most 1"};
        for (int i = 0; i < single.length; i++) {
            holding(day, "p e " + onDay[i], single[i]);
            holding(day, "some h " + onDay[i], single[i]);
            holding(day, "all f " + onDay[i], single[i]);
        }
        Edges.sentence("of some, of all, without PEOPLE");
        for (String when : onDay) {
            holding("days 1 ; event e ;", "some e " + when, 0);
            holding("days 1 ; event e ;", "all e " + when, 1);
        }
        Edges.sentence("a day has one EVENT: with one EVENT alone there is one FUTURE");
        String[] sole = {"on 2", "by 1", "from 2", "ever", "times 2", "most 2"};
        for (String when : sole) {
            holding("days 2 ; person p tall 1 ; event e ;", "p e " + when, 1);
        }
        for (String when : new String[] {"never", "times 0", "times 1", "most 0", "most 1"}) {
            holding("days 2 ; person p tall 1 ; event e ;", "p e " + when, 0);
        }
    }

    private static void sixDays() {
        Edges.sentence("on just so many days; on so many at most (up to six days)");
        String land = "days 6 ; person p tall 1 ; event e ; event f ; ";
        int[] choose = {1, 6, 15, 20, 15, 6, 1};
        int atMost = 0;
        for (int n = 0; n <= 6; n++) {
            atMost += choose[n];
            holding(land, "p e times " + n, choose[n]);
            holding(land, "p e most " + n, atMost);
        }
        for (int n = 1; n <= 6; n++) {
            holding(land, "p e on " + n, 32);
            holding(land, "p e by " + n, 64 - (64 >> n));
            holding(land, "p e from " + n, 64 - (64 >> 7 - n));
        }
    }

    private static void pairs() {
        Edges.sentence("together: on some day both have it");
        holding(TWO, "together p q e", 7);
        holding(TWO, "together q p e", 7);
        holding(TWO, "together p q e and p e on 1 and q e on 2", 3);
        holding(TWO, "together p q e and p e on 1 and q f on 1 and q e on 2 and p f on 2", 0);
        holding("days 1 ; person p tall 1 ; person q tall 2 ; event e ; event f ;", "together p q f", 1);
        Edges.sentence("ahead: the first one's first day with it is ahead of the second's (who may never have it; the first one has it)");
        holding(TWO, "ahead p q e", 5);
        holding(TWO, "ahead q p e", 5);
        holding(TWO, "ahead p q e or ahead q p e", 10);
        holding(TWO, "ahead p q e and q e never", 3);
        holding(TWO, "ahead p q e and p e never", 0);
        holding(TWO, "ahead p q e and p e on 1 and q e on 1", 0);
        holding(TWO, "ahead p q e and p e on 2 and p f on 1 and q e on 2", 0);
        holding(TWO, "ahead p q e and p e on 1 and q e on 2", 2);
        holding(TWO, "ahead p q e and p e never and q e never", 0);
        holding(ONE.replace("event e ;", "person q tall 2 ; event e ;"), "ahead p q e and p e on 3 and p e times 1", 1);
        holding("days 1 ; person p tall 1 ; person q tall 2 ; event e ; event f ;", "ahead p q e", 1);
    }

    private static void pairsOfEachEvent() {
        Edges.sentence("together: on some day both have it; ahead: the first one's first day with it is ahead of the second's");
        String[] events = {"a", "b", "c", "d"};
        String one = "days 1 ; person p tall 1 ; person q tall 1 ; person r tall 1 ; event a ; event b ; event c ; event d ;";
        for (String event : events) {
            holding(one, "together p r " + event + " and p " + event + " on 1 and q a on 1", 1);
            holding(one, "ahead q r " + event + " and q " + event + " on 1 and p b on 1", 3);
            holding(one, "together q p " + event + " and r " + event + " on 1", 1);
        }
        String four = "days 4 ; person p tall 1 ; person q tall 1 ; event e ; event f ;";
        // p's first day is d, q has none up to it: 8 * 8 + 4 * 4 + 2 * 2 + 1
        holding(four, "ahead p q e", 85);
        holding(four, "ahead q p f", 85);
        // not both on any day: 3 to the 4th
        holding(four, "together p q f", 175);
        Edges.sentence("WHO: NAME (of a PERSON told), some, all");
        String crowd = "days 1 ; person a tall 1 ; person b tall 1 ; person c tall 1 ; person d tall 1 ; event e ; event f ;";
        for (String who : events) {
            holding(crowd, who + " e on 1", 8);
            holding(crowd, who + " f times 1", 8);
        }
        holding(crowd, "some e on 1", 15);
        holding(crowd, "all e on 1", 1);
        holding(crowd, "together c d e", 4);
        holding(crowd, "ahead d a f", 4);
        holding(crowd, "a e on 1 and b e on 1 and c e on 1 and d e on 1", 1);
    }

    private static void joining() {
        Edges.sentence("FORMULA: TERM { or TERM }; TERM: ITEM { and ITEM }; ITEM: not ITEM, ( FORMULA ), CLAUSE");
        holding(ONE, "p e on 1 or p e on 2 and p e on 3", 5);
        holding(ONE, "p e on 1 and p e on 2 or p e on 3", 5);
        holding(ONE, "( p e on 1 or p e on 2 ) and p e on 3", 3);
        holding(ONE, "p e on 1 and ( p e on 2 or p e on 3 )", 3);
        holding(ONE, "not p e on 1 and p e on 2", 2);
        holding(ONE, "not ( p e on 1 and p e on 2 )", 6);
        holding(ONE, "not p e on 1 or p e on 2", 6);
        holding(ONE, "not not p e on 1", 4);
        holding(ONE, "not not not not p e on 1", 4);
        holding(ONE, "p e on 1 or p e on 2 or p e on 3", 7);
        holding(ONE, "p e on 1 and p e on 2 and p e on 3", 1);
        holding(ONE, "p e on 1 and p f on 1 or p e on 2 and p f on 2 or p e on 3 and p f on 3", 0);
        holding(ONE, "p e on 1 and p e on 2 or p f on 1 and p f on 2 or p e on 3 and p f on 1", 5);
    }

    private static void vague() {
        Edges.sentence("a vague one's on is by in it (of on alone, wherever it stands)");
        left(ONE, "v p e on 1 ;", 4);
        left(ONE, "v p e on 2 ;", 6);
        left(ONE, "v p e on 3 ;", 7);
        left(ONE, "v not p e on 2 ;", 2);
        left(ONE, "v not ( p f on 1 and p e on 3 ) ;", 5);
        left(ONE, "v some e on 3 and all f on 2 ;", 5);
        left(ONE, "v p e by 2 ;", 6);
        left(ONE, "v p e from 2 ;", 6);
        left(ONE, "v p e from 3 ;", 4);
        left(ONE, "v p e ever ;", 7);
        left(ONE, "v p e never ;", 1);
        left(ONE, "v p e times 2 ;", 3);
        left(ONE, "v p e most 1 ;", 4);
        for (String other : new String[] {"s", "g"}) {
            left(ONE, other + " p e on 3 ;", 4);
        }
        left(ONE, "w some e on 3 ;", 4);
        AgreeTold told = Edges.in(ONE);
        Edges.asks(told, "p e on 2");
        Edges.due("what is asked behind a vague saying", told.asked(0), 4);
        Edges.told(told, "v p e on 2 ;", "s p e on 3 ;");
        Edges.due("on is on for the next one", told.futures(2), 3);
        Edges.due("together is together", Edges.in(TWO + "wish v for 1 together p q e ;").wish(0, 2), 7);
        Edges.due("a wish told by him", Edges.in(TWO + "wish v for 1 p e on 2 ; wish s for 1 p e on 2 ;").wish(0, 2), 12);
        Edges.due("a wish told by the next", Edges.in(TWO + "wish v for 1 p e on 2 ; wish s for 1 p e on 2 ;").wish(1, 2), 8);
        Edges.due("a law behind his wish", Edges.in(TWO + "wish v for 1 p e on 2 ; law p e on 2 ;").futures(1), 8);
    }

    private static void fool() {
        Edges.sentence("a fool's is the contrary of it all");
        left(ONE, "j p e on 1 ;", 4);
        left(ONE, "j p e by 2 ;", 2);
        left(ONE, "j p e on 3 and p e on 1 ;", 6);
        left(ONE, "j p e on 1 or p e on 2 ;", 2);
        left(ONE, "j not p e ever ;", 7);
        left(ONE, "j p e on 1 and p f on 1 ;", 8);
        AgreeTold told = Edges.in(ONE);
        Edges.due("the contrary of what always holds", Texts.tell(told, "j p e most 3 ;"), Edges.NONE);
        Edges.due("the contrary of what always holds", Texts.tell(told, "j p e on 1 or p f on 1 ;"), Edges.NONE);
        Edges.told(told, "s p e on 1 ;", "j p f on 1 ;");
        Edges.due("the contrary of what is sure", Texts.tell(told, "j p e on 1 ;"), Edges.NONE);
        Edges.due("sayings", told.count(6), 2);
        Edges.due("a wish told by him", Edges.in(TWO + "wish j for 1 all e never ;").wish(0, 2), 15);
    }

    private static void weather() {
        Edges.sentence("a weather prophet may not name anybody in it (together, ahead neither)");
        AgreeTold told = Edges.in(TWO);
        for (String naming : new String[] {"p e on 1", "q e ever", "not p e on 1", "( ( p e never ) )", "some e on 1 or p e on 1",
            "p e on 1 or some e on 1", "all e on 1 and not ( some f ever or q f on 2 )", "together p q e", "ahead q p f",
            "some e on 1 and together p q e", "not ahead p q e", "p e on 1 and p f on 1"}) {
            Edges.due("tell of w " + naming, Texts.tell(told, "w " + naming + " ;"), -2);
        }
        Edges.counts(told, "all stays", 2, 2, 2, 5, 0, 0, 0, 1, 0, 0, 0, 0);
        Edges.due("nobody is named", Texts.tell(told, "w some e on 1 and not all f ever or all e most 2 ;"), 0);
        Edges.due("behind one who names", Texts.tell(told, "s p e on 1 ;"), 0);
        Edges.due("nobody is named", Texts.tell(told, "w some e on 1 ;"), 0);
        Edges.sentence("(a weather prophet's that names somebody in no FUTURE)");
        AgreeTold wishing = Edges.in(TWO + "wish w for 9 p e on 1 ; wish w for 8 not ahead p q e ; wish w for 7 not ( together p q e or some e on 1 ) ;"
            + " wish w for 6 some e on 1 ; wish s for 5 p e on 1 ; wish w for 4 not some e on 1 ;");
        int[] holding = {0, 0, 0, 12, 8, 4};
        for (int i = 0; i < holding.length; i++) {
            Edges.due("wish(" + i + ", 2)", wishing.wish(i, 2), holding[i]);
        }
    }

    private static void twelve() {
        Edges.sentence("0 TOLD, or its FAULT; -3: 12 are TOLD; -2: names somebody; NONE: no FUTURE would be LEFT; the first of these");
        AgreeTold told = Edges.in(TWO);
        Edges.told(told, "s p e on 1 ;");
        Edges.due("-2 ahead of NONE", Texts.tell(told, "w p f on 1 ;"), -2);
        Edges.due("NONE", Texts.tell(told, "s p f on 1 ;"), Edges.NONE);
        Edges.due("a fault ahead of -2", Texts.tell(told, "w p f on 3 ;"), Edges.fault(4, 9));
        Edges.due("a fault behind the end", Texts.tell(told, "w p f on 1 ; w"), Edges.fault(1, 13));
        Edges.due("a fault ahead of NONE", Texts.tell(told, "s p f on 1"), Edges.fault(1, 10));
        for (int i = 2; i <= 12; i++) {
            Edges.due("saying " + i, Texts.tell(told, "s p e on 1 ;"), 0);
            Edges.due("count(6)", told.count(6), i);
        }
        Edges.due("a thirteenth", Texts.tell(told, "s p e on 1 ;"), -3);
        Edges.due("-3 ahead of -2", Texts.tell(told, "w p e on 1 ;"), -3);
        Edges.due("-3 ahead of NONE", Texts.tell(told, "s p f on 1 ;"), -3);
        Edges.due("a fault ahead of -3", Texts.tell(told, "s p f on 3 ;"), Edges.fault(4, 9));
        Edges.due("an unknown prophet ahead of -3", Texts.tell(told, "z p f on 3 ;"), 2);
        Edges.due("sayings as bits", told.prophet(0, 2), 4095);
        Edges.due("saying(11, 0)", told.saying(11, 0), 0);
        Edges.due("saying(12, 0)", told.saying(12, 0), Edges.NONE);
        Edges.due("the purse", told.prophet(0, 1), 12);
        told.strike(5);
        Edges.due("eleven", told.count(6), 11);
        Edges.due("a twelfth again", Texts.tell(told, "s p e on 1 ;"), 0);
        Edges.due("a thirteenth again", Texts.tell(told, "s p e on 1 ;"), -3);
        told.undo();
        Edges.due("a twelfth again", Texts.tell(told, "s q e on 1 ;"), 0);
    }

    /** A new object for each text, since one is used for 512 calls at most. */
    private static AgreeTold begun() {
        AgreeTold told = Edges.in(TWO);
        Edges.told(told, "s p e on 1 ;");
        Edges.asks(told, "p e on 2");
        return told;
    }

    private static void stays(AgreeTold told, String text) {
        Edges.counts(told, "behind " + text, 2, 2, 2, 5, 0, 0, 1, 1, 0, 1, 1, 0);
        Edges.due("futures(2)", told.futures(2), 8);
        Edges.due("purse", told.prophet(0, 1), 1);
        Edges.due("asked(0)", told.asked(0), 4);
    }

    private static void refused() {
        Edges.sentence("(all stays then)");
        String[] texts = {"", "s", "z p e on 1 ;", "p p e on 1 ;", "e p e on 1 ;", "s s e on 1 ;", "s p p on 1 ;", "s p e on 1",
            "s p e on 1 ; ;", "s p e on 0 ;", "s together p p e ;", "not p e on 1 ;", "some e on 1 ;", "w q e on 1 ;", "s p f on 1 ;",
            "g p e never ;", "j p e on 1 ;", "1 p e on 1 ;", "; s p e on 1 ;"};
        int[] want = {1, Edges.fault(1, 1), 2, 2, 2, Edges.fault(2, 2), Edges.fault(2, 4), Edges.fault(1, 10),
            Edges.fault(1, 13), Edges.fault(4, 9), Edges.fault(3, 13), 1, 1, -2, -1, -1, -1, 1, 1};
        for (int i = 0; i < texts.length; i++) {
            AgreeTold told = begun();
            Edges.due("tell of " + texts[i], Texts.tell(told, texts[i]), want[i]);
            stays(told, texts[i]);
        }
        Edges.sentence("The TAPE is read as ASKED: 0, or its FAULT (all stays then)");
        String[] asked = {"", ";", "p", "p e", "p e on", "p e on 1", "p e on 3 ;", "p e on 1 ; ;", "s p e on 1 ;", "z e on 1 ;",
            "p z on 1 ;", "ahead q q e ;", "p e on 1 ) ;", "( p e on 1 ;", "not not not not not p e on 1 ;"};
        int[] faults = {1, 1, Edges.fault(1, 1), Edges.fault(1, 3), Edges.fault(1, 6), Edges.fault(1, 8), Edges.fault(4, 7),
            Edges.fault(1, 11), 2, 2, Edges.fault(2, 2), Edges.fault(3, 8), Edges.fault(1, 9), Edges.fault(1, 11), Edges.fault(5, 20)};
        for (int i = 0; i < asked.length; i++) {
            AgreeTold told = begun();
            Edges.due("ask of " + asked[i], Texts.ask(told, asked[i]), faults[i]);
            stays(told, asked[i]);
        }
        AgreeTold nothing = Edges.in(TWO);
        Edges.due("a fault", Texts.ask(nothing, "p e"), Edges.fault(1, 3));
        Edges.due("nothing is ASKED still", nothing.count(9), 0);
        Edges.due("nothing is ASKED still", nothing.asked(0), Edges.NONE);
        Edges.asks(nothing, "p e on 1 and p f on 1");
        Edges.due("something barred may be ASKED", nothing.count(9), 1);
        Edges.due("asked(1)", nothing.asked(1), 0);
    }

    private static void depths() {
        Edges.sentence("no ITEM lies within 5 of not and ( ), in a SAYING, in ASKED");
        AgreeTold told = Edges.in(ONE);
        for (int deep = 0; deep <= 7; deep++) {
            String open = "not ".repeat(deep / 2) + "( ".repeat(deep - deep / 2);
            String close = " )".repeat(deep - deep / 2);
            // two or three times not, then ( up to five in all
            int five = 4 * (deep / 2) + 2 * (5 - deep / 2);
            Edges.due("tell within " + deep, Texts.tell(told, "s " + open + "p e ever" + close + " ;"), deep < 5 ? 0 : Edges.fault(5, 2 + five));
            told.undo();
            Edges.due("ask within " + deep, Texts.ask(told, open + "p e ever" + close + " ;"), deep < 5 ? 0 : Edges.fault(5, five));
        }
    }

    private static void price(String e, int... want) {
        AgreeTold told = Edges.in(TWO + "price " + e + " ;");
        String[] sayings = {"s p e on 1 ;", "s p e on 1 ;", "s q e on 1 ;", "s q e ever ;"};
        int purse = 0;
        for (int i = 0; i < want.length; i++) {
            Edges.told(told, sayings[i]);
            Edges.due("saying(" + i + ", 1) by " + e, told.saying(i, 1), want[i]);
            purse += want[i];
            Edges.due("the purse by " + e, told.prophet(0, 1), purse);
        }
    }

    private static void priceEdges() {
        Edges.sentence("Its PRICE is E (0 if it is below, 99 above)");
        price("0 - 9999", 0);
        price("0 - 1", 0);
        price("0", 0);
        price("1", 1);
        price("98", 98);
        price("99", 99);
        price("100", 99);
        price("9999", 99, 99, 99, 99);
        Edges.sentence("ints wrap");
        // 9999 * 9999 is 99980001; 21 of these are not beyond 2147483647, 22 are
        price("9999 * 9999 * 21", 99);
        price("9999 * 9999 * 22", 0);
        price("9999 * 9999 * 22 < 0", 1);
        // 65536 * 65536 wraps to 0: 256 * 256 * 256 * 256
        price("256 * 256 * 256 * 256", 0);
        price("256 * 256 * 256 * 256 = 0", 1);
        price("256 * 256 * 256 * 256 + 42", 42);
        // 2147483648 wraps to the least int, one below it is the greatest
        price("256 * 256 * 256 * 128 < 0", 1);
        price("256 * 256 * 256 * 128 - 1", 99);
        price("256 * 256 * 256 * 128 - 1 + 1", 0);
        Edges.sentence("Of not, and, or, < and = comes 1 or 0; what is not 0 is so");
        price("not 0", 1);
        price("not 5", 0);
        price("not ( 0 - 5 )", 0);
        price("not not 5", 1);
        price("7 and 8", 1);
        price("7 and 0", 0);
        price("0 or 0", 0);
        price("0 or ( 0 - 3 )", 1);
        price("( 0 - 3 ) and 9", 1);
        price("3 < 3", 0);
        price("3 < 4", 1);
        price("4 < 3", 0);
        price("3 = 3", 1);
        price("3 = 4", 0);
        price("0 - 1 < 0", 1);
        Edges.sentence("E: TEST { and TEST or or TEST }, from the left");
        price("1 or 1 and 0", 0);
        price("1 or ( 1 and 0 )", 1);
        price("0 and 1 or 1", 1);
        price("0 and ( 1 or 1 )", 0);
        price("1 and 2 < 1", 0);
        price("20 - 5 - 3", 12);
        price("20 - ( 5 - 3 )", 18);
        price("2 + 3 * 4", 14);
        price("2 * 3 + 4", 10);
        price("2 * 3 * 4", 24);
        price("10 - 2 * 3", 4);
        price("not 0 * 30", 30);
        price("not ( 0 * 30 )", 1);
        price("1 + 1 = 2 and 5 - 4 < 2", 1);
    }

    private static void facts() {
        Edges.sentence("before, after (FUTURES left ahead of a SAYING and behind it, 9,999 at most), told (how many stand ahead of it)");
        price("before", 16, 8, 8, 4);
        price("after", 8, 8, 4, 4);
        price("told", 0, 1, 2, 3);
        price("before - after", 8, 0, 4, 0);
        AgreeTold told = Edges.in(TWO + "price told * 10 + 5 ;");
        for (int i = 0; i < 12; i++) {
            Edges.told(told, "s p e on 1 ;");
            Edges.due("price of " + i, told.saying(i, 1), Math.min(99, i * 10 + 5));
        }
        told.strike(0);
        told.strike(0);
        told.strike(0);
        told.strike(0);
        Edges.told(told, "s p e on 1 ;");
        Edges.due("eight stand ahead of it", told.saying(8, 1), 85);
        String big = "days 5 ; person a tall 1 ; person b tall 1 ; person c tall 1 ; event e ; event f ; prophet s plain purse 0 ; price ";
        AgreeTold before = Edges.in(big + "( before = 9999 ) * 50 + ( after = 9999 ) * 7 + ( after = 8192 ) + ( before = 8192 ) * 3 ;");
        // 32768, 16384, 8192, 4096
        Edges.told(before, "s a e on 1 ;", "s a e on 2 ;", "s a e on 3 ;");
        Edges.due("both beyond", before.saying(0, 1), 57);
        Edges.due("before beyond", before.saying(1, 1), 51);
        Edges.due("none beyond", before.saying(2, 1), 3);
        Edges.due("it is what is counted that is cut", before.saying(0, 3), 16384);
    }

    private static void nearTenThousand() {
        Edges.sentence("9,999 at most");
        String land = "days 4 ; person a tall 1 ; person b tall 1 ; event e ; event f ; event g ; prophet s plain purse 0 ;"
            + " price after - before + 50 ;";
        AgreeTold told = Edges.in(land);
        Edges.due("3 to the 8th", told.futures(2), 6561);
        Edges.told(told, "s a e most 4 ;");
        Edges.due("below, not cut", told.saying(0, 1), 50);
        String wide = "days 3 ; person a tall 1 ; person b tall 1 ; person c tall 1 ; event e ; event f ; event g ; prophet s plain purse 0 ;"
            + " price before - after ;";
        AgreeTold cut = Edges.in(wide);
        Edges.told(cut, "s not ( a e times 3 and b e times 3 and c e times 3 ) ;");
        Edges.due("19,683 and 19,682 are cut alike", cut.saying(0, 1), 0);
        Edges.told(cut, "s a e on 1 or a f on 1 and b e ever ;");
        // 6560 with e on a's first day, 6561 * 19 / 27 with f there and b's e
        Edges.due("left", cut.futures(2), 6560 + 4617);
        Edges.due("9,999 and 9,999", cut.saying(1, 1), 0);
        Edges.told(cut, "s not ( a f on 1 and b e on 1 and b e on 2 and c e on 1 ) ;");
        // f on a's first day (9 courses), b e e x (3 courses), c e x y (9 courses)
        Edges.due("left", cut.futures(2), 11177 - 243);
        Edges.told(cut, "s not ( a f on 1 and b e on 1 and b f on 2 and c e on 1 ) ;", "s not ( a f on 1 and b e on 1 and b g on 2 and c e on 1 ) ;");
        Edges.due("left", cut.futures(2), 11177 - 729);
        Edges.due("9,999 still", cut.saying(4, 1), 0);
        Edges.told(cut, "s not ( a f on 1 and b e on 1 and b e on 2 and c f on 1 ) ;");
        Edges.due("left", cut.futures(2), 10205);
        Edges.told(cut, "s not ( a f on 1 and b e on 1 and b f on 2 and c f on 1 and ( c e on 2 or c f on 2 ) ) ;");
        Edges.due("left", cut.futures(2), 10205 - 162);
        Edges.due("9,999 still", cut.saying(6, 1), 0);
        Edges.told(cut, "s not ( a f on 1 and b e on 1 and b f on 2 and c f on 1 and c g on 2 and a e on 2 and ( b e on 3 or b f on 3 ) ) ;");
        // a f e x (3), b e f e, b e f f (2), c f g x (3)
        Edges.due("left", cut.futures(2), 10043 - 18);
        Edges.told(cut, "s not ( a f on 1 and b e on 1 and b f on 2 and c f on 1 and c g on 2 and a e on 2 and b g on 3 and a e on 3 ) ;");
        Edges.due("left", cut.futures(2), 10022);
        Edges.told(cut, "s not ( a f on 1 and a f on 2 and b e on 1 and b f on 2 and c f on 1 and c g on 2 and ( b e on 3 or b f on 3 ) ) ;");
        Edges.due("left", cut.futures(2), 10004);
        Edges.due("9,999 still", cut.saying(9, 1), 0);
        Edges.told(cut, "s not ( a f on 1 and a f on 2 and b e on 1 and b f on 2 and c f on 1 and c g on 2 and b g on 3 and ( a e on 3 or a f on 3 ) ) ;");
        Edges.due("left", cut.futures(2), 9998);
        Edges.due("9,999 and 9,998", cut.saying(10, 1), 1);
    }

    private static void longest() {
        Edges.sentence("FORMULA and E as long as the TAPE has room");
        AgreeTold told = Edges.in(ONE);
        Edges.told(told, "s p e on 1" + " or p e on 1".repeat(82) + " ;");
        Edges.due("left", told.futures(2), 4);
        Edges.told(told, "s p e on 2" + " and p e on 2".repeat(75) + " ;");
        Edges.due("left", told.futures(2), 2);
        Edges.told(told, "s" + "(not(p e never))and".repeat(51) + " p e on 3;");
        Edges.due("left", told.futures(2), 1);
        for (int i = 0; i < 3; i++) {
            Edges.told(told, "s p e on 1" + " or p e on 1".repeat(82) + " ;");
            Edges.asks(told, "p e on 1" + " and p f on 1".repeat(75));
            Edges.due("asked", told.asked(0), 0);
        }
        Edges.due("left", told.futures(2), 1);
        String start = "days 1;event e;prophet s plain purse 0;price 500";
        int signs = (999 - start.length()) / 2;
        AgreeTold less = Edges.in(start + "-1".repeat(signs) + ";");
        Edges.told(less, "s all e ever ;");
        Edges.due("price", less.saying(0, 1), 500 - signs);
        AgreeTold more = Edges.in(start + "*1".repeat(signs - 2) + "-450;");
        Edges.told(more, "s all e ever ;");
        Edges.due("price", more.saying(0, 1), 50);
        AgreeTold either = Edges.in(start.replace("500", "0") + "or 0".repeat((999 - start.length()) / 4) + ";");
        Edges.told(either, "s all e ever ;");
        Edges.due("price", either.saying(0, 1), 0);
    }

    public static void main(String[] args) {
        onePerson();
        sixDays();
        pairs();
        pairsOfEachEvent();
        joining();
        vague();
        fool();
        weather();
        twelve();
        refused();
        depths();
        priceEdges();
        facts();
        nearTenThousand();
        longest();
        Edges.end();
    }
}
