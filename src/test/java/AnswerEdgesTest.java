/** The edges of what is asked of the futures: promises 8, 15 to 28, 31, 32 and 34. */
public final class AnswerEdgesTest {
    private static final String PROPHETS = "prophet s plain purse 0 ; prophet v vague purse 0 ; prophet j fool purse 0 ;"
        + " prophet g grand purse 0 ; prophet w weather purse 0 ; ";
    /** 8 futures. */
    private static final String ONE = "days 3 ; person p tall 1 ; event e ; event f ; " + PROPHETS;
    /** 64 futures. */
    private static final String TWO = "days 3 ; person p tall 1 ; person q tall 2 ; event e ; event f ; " + PROPHETS;
    /** 4,096 futures, as many words as sayings. */
    private static final String TWELVE = "days 6 ; person p tall 1 ; person q tall 2 ; event e ; event f ; " + PROPHETS;
    private static final String NOTHING = "law p e on 1 ; law p f on 1 ; ";

    private AnswerEdgesTest() {
    }

    private static void futuresAndCount() {
        Edges.sentence("How many FUTURES there are, what 0: at all, 1: in which the laws hold, 2: LEFT; NONE: others");
        AgreeTold told = Edges.in(TWO + "law p e on 1 ;");
        Edges.told(told, "s q e on 1 ;");
        int[] futures = {64, 32, 16};
        for (int what = -3; what <= 5; what++) {
            Edges.due("futures(" + what + ")", told.futures(what), what >= 0 && what < 3 ? futures[what] : Edges.NONE);
        }
        Edges.sentence("NONE for another what");
        for (int what : new int[] {-1, -2, 12, 13, 100, Integer.MIN_VALUE, Integer.MAX_VALUE}) {
            Edges.due("count(" + what + ")", told.count(what), Edges.NONE);
            Edges.due("futures(" + what + ")", told.futures(what == 13 ? 3 : what), Edges.NONE);
        }
        Edges.counts(told, "of each what", 3, 2, 2, 5, 1, 0, 1, 1, 0, 0, 1, 0);
        Edges.sentence("today (one more than the days: over)");
        AgreeTold short1 = Edges.in("days 1 ; person p tall 1 ; event e ;");
        Edges.due("count(7)", short1.count(7), 1);
        short1.come(0, 0);
        Edges.due("count(7)", short1.count(7), 2);
    }

    /** p has e on day 1, and q not e on every day. */
    private static void oneWord(AgreeTold told, int person, int day, int event) {
        boolean known = person >= 0 && person < 2 && day >= 1 && day <= 3 && event >= 0 && event < 2;
        boolean firstDay = person == 0 && day == 1;
        // q: 3 of his 7 courses with e on a day, 4 with f there
        int holding = firstDay ? event == 0 ? 28 : 0 : person == 0 ? 14 : event == 0 ? 12 : 16;
        int standing = firstDay ? 1 - event : 2;
        boolean sure = known && firstDay && event == 0;
        String which = "(" + person + ", " + day + ", " + event + ")";
        Edges.due("word" + which, told.word(person, day, event), known ? standing : Edges.NONE);
        Edges.due("holds" + which, told.holds(person, day, event), known ? holding : Edges.NONE);
        Edges.due("first" + which, Edges.firstOf(told, person, day, event), !known ? Edges.THROWN : sure ? 0 : Edges.NONE);
        Edges.due("making" + which, told.making(person, day, event, Edges.NONE),
            sure ? 0 : known && person == 1 && event == 1 ? 2 : Edges.NONE);
    }

    private static void words() {
        Edges.sentence("A WORD: 1 SURE, 0 BARRED, 2 OPEN; NONE: others, nothing is LEFT");
        for (int person = -1; person <= 4; person++) {
            AgreeTold told = Edges.in(TWO);
            Edges.told(told, "s p e on 1 ;", "s not q e times 3 ;");
            for (int day = -1; day <= 7; day++) {
                for (int event = -1; event <= 4; event++) {
                    oneWord(told, person, day, event);
                }
            }
        }
        AgreeTold last = Edges.in(TWO);
        Edges.told(last, "s p e times 3 and q e times 2 and q e from 3 and q f by 1 ;");
        // one FUTURE: all is SURE or BARRED
        Edges.due("futures(2)", last.futures(2), 1);
        Edges.due("SURE", last.word(1, 1, 1), 1);
        Edges.due("BARRED", last.word(1, 2, 1), 0);
    }

    private static void nothingLeft() {
        Edges.sentence("nothing is LEFT");
        AgreeTold told = Edges.in(TWO + NOTHING + "wish s for 5 q e ever ; wish v for 6 q f ever ;");
        Edges.due("futures(0)", told.futures(0), 64);
        Edges.due("futures(1)", told.futures(1), 0);
        Edges.due("futures(2)", told.futures(2), 0);
        Edges.due("word", told.word(0, 1, 0), Edges.NONE);
        Edges.due("word", told.word(1, 3, 1), Edges.NONE);
        Edges.due("holds", told.holds(0, 1, 0), 0);
        Edges.due("holds others", told.holds(2, 1, 0), Edges.NONE);
        Edges.due("fair", told.fair(1, 0, 1), Edges.NONE);
        Edges.due("tell", Texts.tell(told, "s q e ever ;"), Edges.NONE);
        Edges.due("tell", Texts.tell(told, "j q e ever ;"), Edges.NONE);
        Edges.due("tell of a weather prophet", Texts.tell(told, "w q e ever ;"), -2);
        Edges.due("come", told.come(1, 0), false);
        Edges.due("widest", told.widest(false), Edges.NONE);
        Edges.due("narrowest", told.widest(true), Edges.NONE);
        Edges.due("vague", told.vague(0, 0, 0), Edges.NONE);
        Edges.due("vague", told.vague(0, 0, 1), Edges.NONE);
        Edges.due("making", told.making(1, 1, 0, Edges.NONE), Edges.NONE);
        Edges.due("span", told.span(1, 0, 0), Edges.NONE);
        Edges.due("knew", told.knew(0, 0), 0);
        Edges.due("knew", told.knew(0, 1), 0);
        Edges.due("wish", told.wish(0, 2), 0);
        Edges.due("auction", told.auction(0), 0);
        Edges.due("auction", told.auction(1), 0);
        Edges.due("duel", told.duel(0, 1, 0), 0);
        Edges.due("duel", told.duel(0, 1, 1), Edges.NONE);
        Edges.due("year", told.year(1, 60, 0), 0);
        Edges.due("year", told.year(1, 60, 1), 0);
        Edges.due("year", told.year(1, 60, 2), 0);
        Edges.asks(told, "q e ever or q f ever");
        Edges.due("asked(0)", told.asked(0), 0);
        Edges.due("why: by the laws alone", told.why(), 0);
        Edges.due("struck: it can't be", told.struck(), Edges.NONE);
        Edges.due("promise", told.promise(0, 2), 1);
        Edges.due("kept", told.kept(), 1);
        Edges.sentence("SURE: in all that are LEFT (a reading where nothing is: see NOTES.md)");
        Edges.due("asked(1)", told.asked(1), 1);
        Edges.due("span", told.span(1, 0, 1), 1);
        Edges.due("first", Edges.firstOf(told, 1, 1, 0), -2);
    }

    private static void asked() {
        Edges.sentence("ASKED, what 0: how many of those LEFT hold it, 1: 1 SURE, 0 BARRED, 2 OPEN; NONE: others, nothing is ASKED");
        AgreeTold told = Edges.in(ONE);
        for (int what = -2; what <= 3; what++) {
            Edges.due("nothing is ASKED: asked(" + what + ")", told.asked(what), Edges.NONE);
        }
        String[] formulas = {"p e most 3", "p e ever", "p e times 3", "p e on 1 and p f on 1", "p e never"};
        int[] many = {8, 7, 1, 0, 1};
        int[] standing = {1, 2, 2, 0, 2};
        for (int i = 0; i < formulas.length; i++) {
            Edges.asks(told, formulas[i]);
            int[] want = {many[i], standing[i]};
            for (int what = -2; what <= 3; what++) {
                Edges.due("asked(" + what + ") of " + formulas[i], told.asked(what), what == 0 || what == 1 ? want[what] : Edges.NONE);
            }
        }
        Edges.told(told, "s p e never ;");
        Edges.due("SURE now", told.asked(1), 1);
        Edges.due("asked(0)", told.asked(0), 1);
        told.undo();
        told.come(0, 0);
        Edges.due("BARRED now", told.asked(1), 0);
    }

    private static void why() {
        Edges.sentence("WHY, as bits; NONE: it is not BARRED, nothing is ASKED");
        AgreeTold told = Edges.in(ONE);
        Edges.due("nothing is ASKED", told.why(), Edges.NONE);
        Edges.due("nothing is ASKED", told.struck(), Edges.NONE);
        Edges.asks(told, "p e on 1");
        Edges.due("OPEN", told.why(), Edges.NONE);
        Edges.told(told, "s p e on 1 ;");
        Edges.due("SURE", told.why(), Edges.NONE);
        Edges.asks(told, "p e on 1 and p f on 1");
        Edges.due("it never holds", told.why(), 0);
        Edges.sentence("WHY: the fewest SAYINGS that, with the laws and what came, leave no FUTURE in which it holds; the least set");
        AgreeTold pairs = Edges.in(ONE);
        Edges.told(pairs, "s p f on 1 or p e on 2 ;", "s p f on 1 or p e on 3 ;", "s p f on 1 or p f on 3 ;", "s p f on 1 or p f on 2 ;");
        Edges.asks(pairs, "p e on 1");
        Edges.due("of 0 with 3 and 1 with 2", pairs.why(), 6);
        Edges.told(pairs, "s p f on 1 ;", "s p f on 1 ;");
        Edges.due("one is fewer than two, the fifth as good as the sixth", pairs.why(), 16);
        AgreeTold twelve = Edges.in(TWELVE);
        for (int i = 0; i < 12; i++) {
            Edges.asks(twelve, "some e ever");
            Edges.due("OPEN behind " + i, twelve.why(), Edges.NONE);
            Edges.due("nothing is to be STRUCK", twelve.struck(), 0);
            Edges.told(twelve, "s " + (i < 6 ? "p" : "q") + " f on " + (i % 6 + 1) + " ;");
        }
        Edges.due("all twelve", twelve.why(), 4095);
        Edges.due("any one is to be STRUCK", twelve.struck(), 1);
        Edges.asks(twelve, "q e on 6");
        Edges.due("the last one", twelve.why(), 2048);
        Edges.due("the last one", twelve.struck(), 2048);
        AgreeTold came = Edges.in(ONE + "law not ( p e on 1 and p e on 2 ) ;");
        came.come(0, 0);
        Edges.told(came, "s p f on 2 ;", "s p e on 3 ;");
        Edges.asks(came, "p e on 2");
        Edges.due("by the laws with what came", came.why(), 0);
        Edges.due("it can't be", came.struck(), Edges.NONE);
        Edges.asks(came, "p e on 2 or p f on 3");
        Edges.due("by the second with these", came.why(), 2);
        Edges.due("the second", came.struck(), 2);
    }

    private static void struck() {
        Edges.sentence("STRIKE: the fewest SAYINGS (no grand one's) without which some FUTURE is LEFT in which it holds; the least set");
        AgreeTold same = Edges.in(ONE);
        for (int i = 0; i < 12; i++) {
            Edges.told(same, "s p e on 1 ;");
        }
        Edges.asks(same, "p f on 1");
        Edges.due("any one bars it", same.why(), 1);
        Edges.due("all are to be STRUCK", same.struck(), 4095);
        Edges.asks(same, "p e on 2");
        Edges.due("OPEN: none is to be STRUCK", same.struck(), 0);
        Edges.asks(same, "p e on 1");
        Edges.due("SURE: none is to be STRUCK", same.struck(), 0);
        String[] sayings = {" p f on 1 or p e on 2 ;", " p f on 1 or p e on 3 ;", " p f on 1 or p f on 3 ;", " p f on 1 or p f on 2 ;"};
        String[] who = {"ssss", "gsss", "sgss", "ggss", "gssg", "gggg", "ssgs", "sgsg"};
        int[] want = {3, 10, 5, 12, Edges.NONE, Edges.NONE, 3, 5};
        for (int i = 0; i < who.length; i++) {
            AgreeTold told = Edges.in(ONE);
            for (int k = 0; k < 4; k++) {
                Edges.told(told, who[i].charAt(k) + sayings[k]);
            }
            Edges.asks(told, "p e on 1");
            Edges.due("struck by " + who[i], told.struck(), want[i]);
            Edges.due("why by " + who[i], told.why(), 6);
        }
        AgreeTold fewest = Edges.in(ONE);
        Edges.told(fewest, "s p f on 1 or p f on 2 ;", "s p f on 1 or p f on 2 ;", "s p f on 1 or p e on 2 ;");
        Edges.asks(fewest, "p e on 1");
        Edges.due("the third is fewer than the first two", fewest.struck(), 4);
        Edges.due("the first with the third", fewest.why(), 5);
        AgreeTold grand = Edges.in(ONE);
        Edges.told(grand, "g p e on 1 ;", "s p e on 2 ;");
        Edges.asks(grand, "p f on 1 or p f on 2");
        Edges.due("another than the grand one's", grand.struck(), 2);
        Edges.asks(grand, "p f on 1 and p f on 2");
        Edges.due("it can't be", grand.struck(), Edges.NONE);
    }

    private static void making() {
        Edges.sentence("MAKING: the fewest WORDS (2 at most), OPEN ones, none the WORD itself");
        AgreeTold three = Edges.in(ONE + "law p e times 1 ;");
        int[] two = {2, 17, 33};
        int[] one = {1, 16, Edges.NONE};
        for (int what = -3; what <= 3; what++) {
            boolean known = what >= -1 && what <= 1;
            Edges.due("making(0, 1, 0, " + what + ")", three.making(0, 1, 0, what), known ? two[what + 1] : Edges.NONE);
            Edges.due("making(0, 1, 1, " + what + ")", three.making(0, 1, 1, what), known ? one[what + 1] : Edges.NONE);
        }
        AgreeTold four = Edges.in("days 4 ; person p tall 1 ; event e ; event f ; law p e times 1 ;");
        Edges.due("three would be needed", four.making(0, 1, 0, Edges.NONE), Edges.NONE);
        Edges.due("three would be needed", four.making(0, 1, 0, 0), Edges.NONE);
        Edges.due("one of three that would do", four.making(0, 4, 1, 0), 0);
        Edges.due("the WORD itself is none of them", four.making(0, 1, 1, 0), 16);
        Edges.sentence("some FUTURE is LEFT and in all that are a WORD holds");
        AgreeTold free = Edges.in(ONE);
        Edges.due("two that contradict make nothing", free.making(0, 1, 0, Edges.NONE), Edges.NONE);
        AgreeTold linked = Edges.in(TWO + "law p e on 3 and q e on 3 or p f on 3 and q f on 3 ;");
        Edges.due("a WORD of another PERSON", linked.making(0, 3, 1, Edges.NONE), 1);
        Edges.due("a WORD of another PERSON", linked.making(0, 3, 1, 0), 37);
        Edges.due("a WORD of another PERSON", linked.making(1, 3, 0, 0), 32);
        Edges.due("a WORD that nothing makes", linked.making(0, 2, 0, Edges.NONE), Edges.NONE);
        Edges.sentence("what NONE: how many (0: it is SURE); NONE: others, it can't be");
        Edges.told(linked, "s p e on 1 ;");
        Edges.due("SURE", linked.making(0, 1, 0, Edges.NONE), 0);
        Edges.due("SURE: no first one", linked.making(0, 1, 0, 0), Edges.NONE);
        Edges.due("SURE: no second one", linked.making(0, 1, 0, 1), Edges.NONE);
        Edges.due("BARRED", linked.making(0, 1, 1, Edges.NONE), Edges.NONE);
        Edges.sentence("of equal ones the first row of numbers, the lesser ahead");
        AgreeTold rows = Edges.in(ONE + "law not ( p e on 1 and p f on 2 ) or p e on 3 ; law not ( p f on 1 and p e on 2 ) or p e on 3 ;");
        // e on day 3 by 0 with 17 or by 1 with 16
        Edges.due("how many", rows.making(0, 3, 0, Edges.NONE), 2);
        Edges.due("the lesser", rows.making(0, 3, 0, 0), 0);
        Edges.due("the other", rows.making(0, 3, 0, 1), 17);
        AgreeTold close = Edges.in(ONE + "law not ( p f on 1 and p e on 2 ) or p e on 3 ;");
        Edges.due("f on 1", close.making(0, 3, 0, 0), 1);
        Edges.due("e on 2", close.making(0, 3, 0, 1), 16);
        AgreeTold end = Edges.in(ONE + "law not ( p f on 2 and p f on 3 ) or p e on 1 ;");
        Edges.due("f on 2", end.making(0, 1, 0, 0), 17);
        Edges.due("f on 3", end.making(0, 1, 0, 1), 33);
    }

    private static void widest() {
        Edges.sentence("WIDEST: the OPEN WORD that leaves most FUTURES; NARROWEST: the fewest; of equal ones the least number");
        AgreeTold told = Edges.in(ONE);
        Edges.due("all are equal", told.widest(false), 0);
        Edges.due("all are equal", told.widest(true), 0);
        Edges.told(told, "s p e on 1 ;");
        Edges.due("OPEN ones alone", told.widest(false), 16);
        Edges.due("OPEN ones alone", told.widest(true), 16);
        Edges.told(told, "s p f on 2 or p e on 3 ;");
        // f e, f f, e e on days 2 and 3: f on 2 leaves 2, e on 2 leaves 1, e on 3 leaves 2
        Edges.due("widest", told.widest(false), 17);
        Edges.due("narrowest", told.widest(true), 16);
        Edges.told(told, "s p f on 2 ;", "s p f on 3 ;");
        Edges.due("none is OPEN", told.widest(false), Edges.NONE);
        Edges.due("none is OPEN", told.widest(true), Edges.NONE);
        Edges.sentence("as number (day - 1) * 16 + PERSON * 4 + EVENT");
        AgreeTold last = Edges.in("days 5 ; person a tall 1 ; person b tall 1 ; person c tall 1 ; event e ; event f ;"
            + " law a e times 5 and b e times 5 and c e most 5 ; law c e on 1 and c e on 2 and c e on 3 and c e on 4 ;");
        Edges.due("c e on 5", last.widest(false), 72);
        AgreeTold sixth = Edges.in("days 6 ; person p tall 1 ; event d ; event e ; event f ; event h ;"
            + " law p d on 1 and p d on 2 and p d on 3 and p d on 4 and p d on 5 and not p d on 6 and not p e on 6 ;");
        Edges.due("p f on 6", sixth.widest(true), 82);
        AgreeTold fourth = Edges.in("days 1 ; person a tall 1 ; person b tall 1 ; person c tall 1 ; person d tall 1 ; event e ; event f ;"
            + " law a e on 1 and b e on 1 and c e on 1 ;");
        Edges.due("d e on 1", fourth.widest(false), 12);
        Edges.due("one EVENT is SURE", Edges.in("days 2 ; person p tall 1 ; event e ;").widest(false), Edges.NONE);
        Edges.due("nobody", Edges.in("days 2 ; event e ; event f ;").widest(true), Edges.NONE);
    }

    private static void vague(String land, int number, int leaves) {
        AgreeTold told = Edges.in(land);
        Edges.due("vague(0, 0, 0) in " + land, told.vague(0, 0, 0), number);
        Edges.due("vague(0, 0, 1) in " + land, told.vague(0, 0, 1), leaves);
    }

    private static void vagueWords() {
        Edges.sentence("on 1, on 2 .., by 1 .., from 1 .., ever, never, times 0, times 1 ..: OPEN, most FUTURES; the first; how many it leaves");
        String day = "days 1 ; person p tall 1 ; event e ; event f ; ";
        String two = "days 2 ; person p tall 1 ; event e ; event f ; event h ; ";
        String three = "days 3 ; person p tall 1 ; event e ; event f ; event h ; ";
        vague(day, 0, 1);
        vague("days 6 ; person p tall 1 ; event e ; event f ;", 11, 63);
        vague("days 2 ; person p tall 1 ; event e ; event f ;", 3, 3);
        vague(two + "law p f on 1 ;", 7, 2);
        vague(two + "law p e ever ;", 9, 4);
        vague(two + "law p e on 1 and p e on 2 or p e never ;", 7, 4);
        vague(three + "law p e on 1 and p f on 2 and p f on 3 or p f on 1 and p e on 2 and p f on 3"
            + " or p f on 1 and p e on 3 and ( p f on 2 or p h on 2 ) ;", 7, 3);
        vague(day + "law p e on 1 ;", Edges.NONE, Edges.NONE);
        vague(day + "law p f on 1 ;", Edges.NONE, Edges.NONE);
        vague("days 3 ; person p tall 1 ; event e ;", Edges.NONE, Edges.NONE);
        for (int person = -1; person <= 4; person++) {
            AgreeTold told = Edges.in(TWO);
            for (int event = -1; event <= 4; event++) {
                for (int what = -2; what <= 3; what++) {
                    boolean known = person >= 0 && person < 2 && event >= 0 && event < 2 && what >= 0 && what < 2;
                    // by 3, number 3 + 2, leaves 7 of 8 courses
                    int want = what == 0 ? 5 : 56;
                    Edges.due("vague(" + person + ", " + event + ", " + what + ")", told.vague(person, event, what), known ? want : Edges.NONE);
                    // of a WORD's span the first day is 1, and nothing must have been
                    Edges.due("span(" + person + ", " + event + ", " + what + ")", told.span(person, event, what),
                        known && what == 0 ? 1 : Edges.NONE);
                }
            }
        }
    }

    private static void span(String law, int may, int must) {
        AgreeTold told = Edges.in(ONE + law);
        Edges.due("span(0, 0, 0) by " + law, told.span(0, 0, 0), may);
        Edges.due("span(0, 0, 1) by " + law, told.span(0, 0, 1), must);
    }

    private static void spans() {
        Edges.sentence("SPAN, what 0: the first day it may be, 1: by which it must have been; NONE: others, never, not sure");
        span("", 1, Edges.NONE);
        span("law p e on 1 ;", 1, 1);
        span("law p e ever ;", 1, 3);
        span("law p e by 2 ;", 1, 2);
        span("law p e on 3 ;", 1, 3);
        span("law p e on 3 and p f on 1 ;", 2, 3);
        span("law p e times 1 and p f on 1 and p f on 2 ;", 3, 3);
        span("law p f on 1 and p f on 2 ;", 3, Edges.NONE);
        span("law p e never ;", Edges.NONE, Edges.NONE);
        span("law p e times 2 ;", 1, 2);
        span("law p e most 1 ;", 1, Edges.NONE);
    }

    private static void firsts() {
        Edges.sentence("FIRST of a WORD (NONE: it is not SURE; -2: it is by the laws and what came alone). NoSuchElementException: others");
        AgreeTold told = Edges.in(TWO + "law p e on 1 ; law not ( p e on 1 and q f on 1 ) or p e on 2 ;");
        Edges.due("by a law", Edges.firstOf(told, 0, 1, 0), -2);
        Edges.due("not SURE", Edges.firstOf(told, 0, 2, 0), Edges.NONE);
        Edges.due("BARRED", Edges.firstOf(told, 0, 1, 1), Edges.NONE);
        Edges.told(told, "s p e on 1 ;", "s q e ever ;", "s q f on 1 ;", "s p e on 2 ;");
        Edges.due("a law is ahead of the saying", Edges.firstOf(told, 0, 1, 0), -2);
        Edges.due("by a law with the third", Edges.firstOf(told, 0, 2, 0), 2);
        Edges.due("the third itself", Edges.firstOf(told, 1, 1, 1), 2);
        Edges.due("not SURE", Edges.firstOf(told, 1, 2, 0), Edges.NONE);
        told.strike(0);
        Edges.due("it moved up", Edges.firstOf(told, 0, 2, 0), 1);
        told.strike(1);
        Edges.due("by the fourth, the second now", Edges.firstOf(told, 0, 2, 0), 1);
        Edges.told(told, "s q f on 1 ;");
        told.come(1, 1);
        Edges.due("by a law with what came", Edges.firstOf(told, 0, 2, 0), -2);
        Edges.due("by what came", Edges.firstOf(told, 1, 1, 1), -2);
        AgreeTold twelve = Edges.in(TWELVE);
        for (int i = 0; i < 12; i++) {
            Edges.told(twelve, "s " + (i < 6 ? "p" : "q") + " f on " + (i % 6 + 1) + " ;");
        }
        for (int i = 0; i < 12; i++) {
            Edges.due("by saying " + i, Edges.firstOf(twelve, i / 6, i % 6 + 1, 1), i);
            Edges.due("barred by saying " + i, Edges.firstOf(twelve, i / 6, i % 6 + 1, 0), Edges.NONE);
        }
    }

    private static void knew() {
        Edges.sentence("KNEW of a PROPHET, what 0: FUTURES, 1: other SAYINGS as bits; NONE: others");
        AgreeTold told = Edges.in(ONE + "law p e ever ;");
        for (int prophet = -2; prophet <= 6; prophet++) {
            for (int what = -2; what <= 3; what++) {
                boolean known = prophet >= 0 && prophet < 5 && what >= 0 && what < 2;
                Edges.due("knew(" + prophet + ", " + what + ")", told.knew(prophet, what), known ? what == 0 ? 7 : 0 : Edges.NONE);
            }
        }
        Edges.told(told, "s p e on 1 ;", "v p e on 2 ;", "g p e most 3 ;", "j p f times 3 ;", "s p e on 2 ;", "w all e from 2 ;");
        int[] futures = {2, 6, 7, 7, 6};
        // plain: e e x, so all others; vague: what always holds by the laws (2, 3); fool and grand: each other's; weather: these
        int[] others = {0b101110, 0b001100, 0b000100, 0b001000, 0b001100};
        for (int prophet = 0; prophet < 5; prophet++) {
            Edges.due("knew(" + prophet + ", 0)", told.knew(prophet, 0), futures[prophet]);
            Edges.due("knew(" + prophet + ", 1)", told.knew(prophet, 1), others[prophet]);
        }
        told.come(0, 0);
        told.come(0, 0);
        Edges.due("what came does not count", told.knew(1, 0), 6);
        told.strike(0);
        Edges.due("what was struck does not count", told.knew(0, 0), 4);
        // e on 2: the vague one's, the grand one's, the fool's and, from 2 on, the weather one's
        Edges.due("those behind moved up", told.knew(0, 1), 0b10111);
    }

    private static void auctions() {
        Edges.sentence("AUCTION: wishes with which some FUTURE is LEFT, with most coins; of equal ones the fewest, then the least set");
        AgreeTold none = Edges.in(ONE);
        for (int what = -2; what <= 3; what++) {
            Edges.due("no wish: auction(" + what + ")", none.auction(what), what == 0 || what == 1 ? 0 : Edges.NONE);
            Edges.due("no wish: wish(0, " + what + ")", none.wish(0, what), Edges.NONE);
        }
        AgreeTold all = Edges.in(ONE + "wish s for 99 p e ever ; ".repeat(6));
        Edges.due("six times 99", all.auction(0), 594);
        Edges.due("all six", all.auction(1), 63);
        String[] lands = {"wish s for 0 p e on 1 ; wish s for 0 p e on 2 ;", "wish s for 0 p e on 1 ; wish s for 1 p e on 2 ;",
            "wish s for 4 p e on 1 ; wish s for 3 p f on 1 and p e on 2 ; wish s for 1 p f on 1 ;",
            "wish s for 3 p f on 1 and p e on 2 ; wish s for 1 p f on 1 ; wish s for 4 p e on 1 ;",
            "wish s for 5 p e on 1 ; wish s for 5 p f on 1 ;", "wish s for 5 p e on 1 and p f on 1 ; wish s for 2 p f on 1 ;",
            "wish s for 2 p e on 1 ; wish v for 2 p f on 1 ; wish s for 2 p f on 1 ; wish g for 2 p e on 1 ;",
            "wish w for 90 p e on 1 ; wish w for 3 all e on 1 ; wish j for 4 p f on 1 ;"};
        int[] coins = {0, 1, 4, 4, 5, 2, 4, 7};
        int[] sets = {0, 2, 1, 4, 1, 2, 6, 6};
        for (int i = 0; i < lands.length; i++) {
            AgreeTold told = Edges.in(ONE + lands[i]);
            Edges.due("auction(0) of " + lands[i], told.auction(0), coins[i]);
            Edges.due("auction(1) of " + lands[i], told.auction(1), sets[i]);
        }
        AgreeTold told = Edges.in(ONE + "wish s for 9 p e on 1 ; wish s for 1 p f on 1 ;");
        Edges.told(told, "s p f on 1 ;");
        Edges.due("of those LEFT", told.auction(0), 1);
        Edges.due("of those LEFT", told.auction(1), 2);
        Edges.sentence("Of a wish, what 0: whose, 1: coins, 2: how many of those LEFT hold it as it is told; NONE: others");
        int[][] want = {{0, 9, 0}, {0, 1, 4}};
        for (int wish = -2; wish <= 7; wish++) {
            for (int what = -2; what <= 4; what++) {
                boolean known = wish >= 0 && wish < 2 && what >= 0 && what < 3;
                Edges.due("wish(" + wish + ", " + what + ")", told.wish(wish, what), known ? want[wish][what] : Edges.NONE);
            }
        }
    }

    private static void duel(String wishes, int wins, int by) {
        AgreeTold told = Edges.in(ONE + wishes);
        Edges.due("duel(0, 3, 0) of " + wishes, told.duel(0, 3, 0), wins);
        Edges.due("duel(0, 3, 1) of " + wishes, told.duel(0, 3, 1), by);
    }

    private static void duels() {
        Edges.sentence("DUEL, the first one beginning, what 0: 1 he wins, 0 the other, 1: by which wish (NONE: none); NONE: others, the same");
        duel("", 0, Edges.NONE);
        duel("wish s for 1 p e on 1 ;", 1, 0);
        duel("wish g for 1 p e on 1 ;", 0, Edges.NONE);
        duel("wish s for 1 p e on 1 ; wish g for 1 p e on 1 ;", 0, Edges.NONE);
        duel("wish s for 1 p e on 1 ; wish g for 1 p f on 1 ;", 1, 0);
        duel("wish s for 1 p e on 1 and p f on 1 ;", 0, Edges.NONE);
        duel("wish g for 1 p f on 1 ; wish v for 1 p e on 2 ; wish s for 1 p e on 2 ; wish s for 1 p e on 1 ;", 1, 3);
        duel("wish g for 1 p f on 1 ; wish s for 1 p e on 2 and p f on 1 ; wish s for 1 p e on 1 ;", 1, 2);
        duel("wish s for 1 p e on 1 ; wish s for 1 p e on 1 ; wish g for 1 p e on 1 ; wish g for 1 p e on 1 ;", 0, Edges.NONE);
        duel("wish s for 1 p e on 1 ; ".repeat(3) + "wish g for 1 p e on 1 ; ".repeat(3), 0, Edges.NONE);
        duel("wish s for 1 p e on 1 ; ".repeat(4) + "wish g for 1 p e on 1 ; ".repeat(2), 1, 0);
        duel("wish s for 1 p e on 1 ; ".repeat(6), 1, 0);
        for (int first = -2; first <= 6; first++) {
            AgreeTold told = Edges.in(ONE + "wish s for 1 p e on 1 ; wish g for 1 p f on 1 ;");
            for (int other = -2; other <= 6; other++) {
                for (int what = -2; what <= 3; what++) {
                    boolean known = first >= 0 && first < 5 && other >= 0 && other < 5 && first != other && what >= 0 && what < 2;
                    int by = first == 0 ? 0 : first == 3 ? 1 : Edges.NONE;
                    int want = what == 1 ? by : by == Edges.NONE ? 0 : 1;
                    Edges.due("duel(" + first + ", " + other + ", " + what + ")", told.duel(first, other, what), known ? want : Edges.NONE);
                }
            }
        }
        AgreeTold told = Edges.in(ONE + "wish s for 1 p e on 1 ; wish g for 1 p f on 1 ;");
        Edges.told(told, "s p f on 1 ;");
        Edges.due("with what is LEFT", told.duel(0, 3, 0), 0);
        Edges.due("with what is LEFT", told.duel(3, 0, 1), 1);
    }

    private static void fair() {
        Edges.sentence("FAIR by a SEED (0 to 9999): the EVENT of a PERSON on a day; NONE: others, no EVENT, nothing is LEFT");
        AgreeTold told = Edges.in("days 2 ; person p tall 1 ; person q tall 1 ; event e ; event f ; event h ; prophet s plain purse 0 ;");
        for (int seed : new int[] {-1, 10000, Integer.MIN_VALUE, Integer.MAX_VALUE}) {
            Edges.due("fair(" + seed + ", 0, 1)", told.fair(seed, 0, 1), Edges.NONE);
        }
        // the first DRAW by 9999 is 4241, 29 modulo 81, which is 1 0 0 2 to the base of 3
        int[][] digits = {{1, 0}, {0, 2}};
        for (int person = -1; person <= 4; person++) {
            for (int day = -1; day <= 7; day++) {
                boolean known = person >= 0 && person < 2 && day >= 1 && day <= 2;
                Edges.due("fair(9999, " + person + ", " + day + ")", told.fair(9999, person, day), known ? digits[day - 1][person] : Edges.NONE);
                Edges.due("fair(0, " + person + ", " + day + ")", told.fair(0, person, day), known ? 0 : Edges.NONE);
            }
        }
        Edges.sentence("of those LEFT, in order of numbers, the one of a DRAW below how many they are");
        Edges.told(told, "s q h on 2 ;");
        // 4241 modulo 27 is 2: of 0 0 0 2, 0 0 1 2, 0 0 2 2 the third
        int[][] third = {{0, 0}, {2, 2}};
        for (int person = 0; person < 2; person++) {
            for (int day = 1; day <= 2; day++) {
                Edges.due("fair(9999, " + person + ", " + day + ")", told.fair(9999, person, day), third[day - 1][person]);
            }
        }
        everyIndex();
        AgreeTold most = Edges.in("days 5 ; person a tall 1 ; person b tall 1 ; person c tall 1 ; event e ; event f ;");
        // 4241 to the base of 2, with 15 digits
        String bits = "001000010010001";
        for (int i = 0; i < 15; i++) {
            Edges.due("digit " + i, most.fair(9999, i % 3, i / 3 + 1), bits.charAt(i) - '0');
        }
        Edges.due("no EVENT", Edges.in("days 1 ; person p tall 1 ;").fair(0, 0, 1), Edges.NONE);
        Edges.due("nobody", Edges.in("days 1 ; event e ;").fair(0, 0, 1), Edges.NONE);
        Edges.due("one FUTURE", Edges.in("days 1 ; person p tall 1 ; event e ;").fair(9999, 0, 1), 0);
    }

    private static int draw(int seed) {
        return (int) ((seed * 1103515245L + 12345L) % 2147483648L / 65536L);
    }

    /** Of 256 futures those with f for q on day 4: the odd numbers, each drawn by some seed. */
    private static void everyIndex() {
        for (int index = 0; index < 128; index++) {
            int seed = 0;
            while (draw(seed) % 128 != index) {
                seed++;
            }
            AgreeTold told = Edges.in("days 4 ; person p tall 1 ; person q tall 1 ; event e ; event f ; law q f on 4 ;");
            for (int digit = 0; digit < 8; digit++) {
                int want = 2 * index + 1 >> 7 - digit & 1;
                Edges.due("fair(" + seed + ") of index " + index, told.fair(seed, digit % 2, digit / 2 + 1), want);
            }
        }
    }

    private static void years() {
        Edges.sentence("YEAR by a SEED (0 to 9999), turns (1 to 60); NONE: others, no PROPHET, PERSON or EVENT");
        String people = "days 3 ; person p tall 1 ; person q tall 1 ; event e ; event f ; ";
        AgreeTold told = Edges.in(people + "prophet s plain purse 0 ; prophet v plain purse 0 ;");
        // draws by 9999: 4241 233 22049 17954: v, day 3, q, e; 28191 15727 30323 18459: v, day 2, q, f
        int[] one = {1, 32, 1};
        int[] two = {2, 16, 1};
        for (int what = -2; what <= 4; what++) {
            boolean known = what >= 0 && what < 3;
            Edges.due("year(9999, 1, " + what + ")", told.year(9999, 1, what), known ? one[what] : Edges.NONE);
            Edges.due("year(9999, 2, " + what + ")", told.year(9999, 2, what), known ? two[what] : Edges.NONE);
            for (int turns : new int[] {Integer.MIN_VALUE, -1, 0, 61, Integer.MAX_VALUE}) {
                Edges.due("year(9999, " + turns + ", " + what + ")", told.year(9999, turns, what), Edges.NONE);
            }
            for (int seed : new int[] {Integer.MIN_VALUE, -1, 10000, Integer.MAX_VALUE}) {
                Edges.due("year(" + seed + ", 1, " + what + ")", told.year(seed, 1, what), Edges.NONE);
            }
        }
        // draws by 0: 0 21468 9988 22117: s, day 1, p, f; 3498 16927 16045 19741: s, day 2, q, f
        Edges.due("year(0, 1, 1)", told.year(0, 1, 1), 32);
        Edges.due("year(0, 2, 2)", told.year(0, 2, 2), 0);
        Edges.due("no PROPHET", Edges.in(people).year(1, 1, 0), Edges.NONE);
        Edges.due("no PERSON", Edges.in("days 1 ; event e ; prophet s plain purse 0 ;").year(1, 1, 1), Edges.NONE);
        Edges.due("no EVENT", Edges.in("days 1 ; person p tall 1 ; prophet s plain purse 0 ;").year(1, 1, 2), Edges.NONE);
        Edges.sentence("SAYINGS as many as one likes; how many are TOLD, how many are LEFT at last, by whom most");
        AgreeTold sole = Edges.in("days 1 ; person p tall 1 ; event e ; prophet s plain purse 0 ; prophet j fool purse 0 ;");
        for (int i = 0; i < 12; i++) {
            Edges.told(sole, "s p e on 1 ;");
        }
        AgreeTold plain = Edges.in("days 1 ; person p tall 1 ; event e ; prophet s plain purse 0 ;");
        for (int i = 0; i < 12; i++) {
            Edges.told(plain, "s p e on 1 ;");
        }
        for (int turns = 1; turns <= 60; turns++) {
            Edges.due("year(7, " + turns + ", 0)", plain.year(7, turns, 0), turns);
            Edges.due("year(7, " + turns + ", 1)", plain.year(7, turns, 1), 1);
            Edges.due("no turn by the fool is TOLD", sole.year(7, turns, 0) <= turns, true);
            Edges.due("by whom most", sole.year(7, turns, 2), 0);
        }
        AgreeTold fool = Edges.in("days 1 ; person p tall 1 ; event e ; prophet j fool purse 0 ;");
        Edges.due("none is TOLD", fool.year(7, 60, 0), 0);
        Edges.due("all are LEFT", fool.year(7, 60, 1), 1);
        Edges.due("the first of equal ones", fool.year(7, 60, 2), 0);
        Edges.sentence("all is as ahead then");
        Edges.counts(plain, "behind the years", 1, 1, 1, 1, 0, 0, 12, 1, 0, 0, 12, 0);
        Edges.due("the purse", plain.prophet(0, 1), 12);
        Edges.due("futures(2)", told.futures(2), 64);
        Edges.due("count(10)", told.count(10), 0);
    }

    private static void yearsByKind() {
        Edges.sentence("a vague one by that day, a fool the contrary, a weather one some for the PERSON");
        String people = "days 3 ; person p tall 1 ; person q tall 1 ; event e ; event f ; prophet s ";
        // by 9999 the first turn is q e on 3
        String[] kinds = {"plain", "vague", "fool", "grand", "weather"};
        int[] left = {32, 56, 32, 32, 48};
        for (int i = 0; i < kinds.length; i++) {
            AgreeTold told = Edges.in(people + kinds[i] + " purse 0 ;");
            Edges.due("year by a " + kinds[i] + " one", told.year(9999, 1, 1), left[i]);
            Edges.told(told, "s some e on 1 ;");
            Edges.due("it begins with what is LEFT", told.year(9999, 1, 0), 1);
        }
        AgreeTold barred = Edges.in(people + "plain purse 0 ; law q f on 3 ;");
        Edges.due("what is BARRED is not TOLD", barred.year(9999, 1, 0), 0);
        Edges.due("what is BARRED is not TOLD", barred.year(9999, 1, 1), 32);
        AgreeTold contrary = Edges.in(people + "fool purse 0 ; law q f on 3 ;");
        Edges.due("its contrary is", contrary.year(9999, 1, 0), 1);
        AgreeTold vague = Edges.in(people + "vague purse 0 ; law q f on 3 ;");
        Edges.due("by that day it may be", vague.year(9999, 1, 1), 24);
        AgreeTold weather = Edges.in(people + "weather purse 0 ; law q f on 3 ;");
        Edges.due("somebody else may have it", weather.year(9999, 1, 1), 16);
    }

    private static void oneAfterAnother() {
        Edges.sentence("each answer is of this LAND and of what is TOLD now, whatever was asked ahead");
        AgreeTold told = Edges.in(ONE + "wish s for 3 p e on 1 ; wish g for 4 p f on 1 ; wish s for 5 p e on 2 ; wish g for 1 p e on 3 ;");
        Edges.told(told, "s p e on 3 ;", "s p e on 3 ;", "s p e ever ;");
        Edges.asks(told, "p f on 3");
        for (int round = 0; round < 3; round++) {
            Edges.due("why", told.why(), 1);
            Edges.due("auction(0)", told.auction(0), 10);
            Edges.due("auction(1)", told.auction(1), 14);
            Edges.due("struck", told.struck(), 3);
            // s by 0: g by 3, s by 2, and g's other one is barred; s by 2: g by 1, s has none, as 0 is barred
            Edges.due("duel(0, 3, 1)", told.duel(0, 3, 1), 0);
            Edges.due("year", told.year(5, 60, 1) >= 1, true);
            Edges.due("vague(0, 0, 1)", told.vague(0, 0, 1), 3);
            Edges.due("making", told.making(0, 1, 0, Edges.NONE), Edges.NONE);
        }
        Edges.due("another land", Texts.land(told, "days 1 ; person p tall 1 ; event e ; event f ; prophet s plain purse 0 ;"
            + " prophet g plain purse 0 ; wish g for 2 p e on 1 ;"), 0);
        Edges.due("auction(1)", told.auction(1), 1);
        Edges.due("duel(0, 1, 0)", told.duel(0, 1, 0), 0);
        Edges.due("duel(1, 0, 1)", told.duel(1, 0, 1), 0);
        Edges.due("widest", told.widest(false), 0);
        Edges.due("fair", told.fair(0, 0, 1), 0);
        Edges.due("a large one", Texts.land(told, TWELVE + "wish s for 9 p e times 6 and q f times 6 ; wish g for 1 q e ever ;"), 0);
        Edges.due("futures(2)", told.futures(2), 4096);
        Edges.due("auction(1)", told.auction(1), 1);
        Edges.due("wish(0, 2)", told.wish(0, 2), 1);
        Edges.due("a small one again", Texts.land(told, ONE), 0);
        Edges.due("futures(2)", told.futures(2), 8);
        Edges.due("auction(1)", told.auction(1), 0);
        Edges.asks(told, "p e on 3");
        Edges.due("asked(0)", told.asked(0), 4);
        Edges.due("asked(1)", told.asked(1), 2);
        Edges.due("holds", told.holds(0, 3, 1), 4);
        Edges.due("word", told.word(0, 3, 1), 2);
        Edges.due("the least one", Texts.land(told, "days 1 ; person p tall 1 ; event e ;"), 0);
        Edges.due("widest", told.widest(false), Edges.NONE);
        Edges.due("narrowest", told.widest(true), Edges.NONE);
        Edges.due("making", told.making(0, 1, 0, Edges.NONE), 0);
        Edges.due("two people", Texts.land(told, "days 1 ; person p tall 1 ; person q tall 1 ; event e ; event f ;"), 0);
        Edges.due("one of them", Texts.land(told, "days 1 ; person p tall 1 ; event e ; event f ; event h ;"), 0);
        Edges.due("widest", told.widest(false), 0);
        Edges.due("four events", Texts.land(told, "days 1 ; person p tall 1 ; event e ; event f ; event h ; event k ;"), 0);
        Edges.due("two of them", Texts.land(told, "days 2 ; person p tall 1 ; event e ; event f ;"), 0);
        Edges.due("narrowest", told.widest(true), 0);
        Edges.due("a land with two wishes", Texts.land(told, ONE + "wish s for 1 p e on 1 ; wish g for 1 p e on 1 ;"), 0);
        Edges.due("duel(0, 3, 1)", told.duel(0, 3, 1), Edges.NONE);
        Edges.due("a land with one of them", Texts.land(told, ONE + "wish s for 1 p e on 1 ;"), 0);
        Edges.due("duel(0, 3, 1)", told.duel(0, 3, 1), 0);
    }

    public static void main(String[] args) {
        oneAfterAnother();
        futuresAndCount();
        words();
        nothingLeft();
        asked();
        why();
        struck();
        making();
        widest();
        vagueWords();
        spans();
        firsts();
        knew();
        auctions();
        duels();
        fair();
        years();
        yearsByKind();
        Edges.end();
    }
}
