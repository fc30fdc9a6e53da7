/** The edges of what is done by hand: promises 7 and 10 to 14, and 33. */
public final class TellingEdgesTest {
    private static final String PROPHETS = "prophet s plain purse 0 ; prophet v vague purse 10 ; prophet j fool purse 20 ;"
        + " prophet g grand purse 30 ; prophet w weather purse 40 ; ";
    /** 64 futures. */
    private static final String LAND = "days 3 ; person p tall 10 ; person q tall 20 ; event e ; event f ; " + PROPHETS
        + "price before - after + 1 ; ";

    private TellingEdgesTest() {
    }

    private static void prophets() {
        Edges.sentence("Of a PROPHET, what 0: its KIND, 1: purse, 2: SAYINGS as bits, 3: wishes as bits; NONE: others");
        AgreeTold told = Edges.in(LAND + "wish s for 1 p e ever ; wish g for 2 p e ever ; wish s for 3 p e ever ;");
        Edges.told(told, "g p e ever ;", "v p e ever ;", "g p e ever ;");
        int[][] want = {{0, 0, 0, 5}, {1, 11, 2, 0}, {2, 20, 0, 0}, {3, 40, 5, 2}, {4, 40, 0, 0}};
        for (int prophet = -2; prophet <= 6; prophet++) {
            for (int what = -2; what <= 5; what++) {
                boolean known = prophet >= 0 && prophet < 5 && what >= 0 && what < 4;
                Edges.due("prophet(" + prophet + ", " + what + ")", told.prophet(prophet, what), known ? want[prophet][what] : Edges.NONE);
            }
        }
        // p e ever takes 8 of 64 away: 9 coins, then 1 each
        Edges.due("saying(0, 1)", told.saying(0, 1), 9);
        Edges.sentence("Of a SAYING, what 0: whose, 1: its PRICE, 2: FUTURES .., 3: how many were LEFT ..; NONE: others");
        int[][] said = {{3, 9, 56, 56}, {1, 1, 56, 56}, {3, 1, 56, 56}};
        for (int saying = -2; saying <= 13; saying++) {
            for (int what = -2; what <= 5; what++) {
                boolean known = saying >= 0 && saying < 3 && what >= 0 && what < 4;
                Edges.due("saying(" + saying + ", " + what + ")", told.saying(saying, what), known ? said[saying][what] : Edges.NONE);
            }
        }
    }

    private static void withTheLawsAlone() {
        Edges.sentence("2: FUTURES in which it holds with the laws alone, 3: how many were LEFT when it was TOLD");
        AgreeTold told = Edges.in(LAND + "law p e on 1 ;");
        told.come(0, 0);
        told.come(1, 0);
        Edges.told(told, "s q e on 1 ;", "s q f on 2 ;", "j q f on 3 ;", "v p f on 3 ;");
        int[] alone = {16, 16, 16, 24};
        // 8 are left by what came, then q's day 2, q's day 3, and one of p's two days
        int[] then = {8 * 2, 8, 4, 3};
        for (int i = 0; i < 4; i++) {
            Edges.due("saying(" + i + ", 2)", told.saying(i, 2), alone[i]);
            Edges.due("saying(" + i + ", 3)", told.saying(i, 3), then[i]);
        }
        told.strike(1);
        Edges.due("it keeps how many were LEFT", told.saying(2, 3), 3);
        Edges.due("it keeps its PRICE", told.saying(1, 1), 5);
        Edges.due("LEFT now", told.futures(2), 6);
    }

    private static void strikes() {
        Edges.sentence("what was STRUCK by hand (not a grand one's) is gone, those behind it move up; the purse keeps the PRICE");
        AgreeTold told = Edges.in(LAND);
        for (int saying : new int[] {-1, 0, 1, 11, 12, Integer.MAX_VALUE, Integer.MIN_VALUE}) {
            Edges.due("nothing is TOLD: strike(" + saying + ")", told.strike(saying), false);
        }
        Edges.told(told, "s p e on 1 ;", "g q e on 1 ;", "v p e on 2 ;", "j q e on 2 ;", "w some f on 3 ;");
        Edges.due("strike(-1)", told.strike(-1), false);
        Edges.due("strike(5)", told.strike(5), false);
        Edges.due("strike(12)", told.strike(12), false);
        Edges.due("a grand one's", told.strike(1), false);
        Edges.counts(told, "nothing was struck", 3, 2, 2, 5, 0, 0, 5, 1, 0, 0, 5, 0);
        int purse = told.prophet(4, 1);
        Edges.due("the last one", told.strike(4), true);
        Edges.due("count(6)", told.count(6), 4);
        Edges.due("the purse keeps the PRICE", told.prophet(4, 1), purse);
        Edges.due("strike(4) again", told.strike(4), false);
        Edges.due("the first one", told.strike(0), true);
        Edges.due("the grand one's is the first now", told.saying(0, 0), 3);
        Edges.due("the vague one's moved up", told.saying(1, 0), 1);
        Edges.due("the fool's moved up", told.saying(2, 0), 2);
        Edges.due("none behind", told.saying(3, 0), Edges.NONE);
        Edges.due("sayings as bits", told.prophet(2, 2), 4);
        Edges.due("a grand one's", told.strike(0), false);
        // q e on 1, p e by 2, q f on 2
        Edges.due("futures(2)", told.futures(2), 12);
        Edges.due("the middle one", told.strike(1), true);
        Edges.due("futures(2)", told.futures(2), 16);
        Edges.due("the fool's", told.strike(1), true);
        Edges.due("the grand one's stays", told.count(6), 1);
        Edges.due("futures(2)", told.futures(2), 32);
        Edges.due("it can be told now", Texts.tell(told, "s q e on 2 ;"), 0);
        Edges.due("what contradicts can't", Texts.tell(told, "s q f on 1 ;"), Edges.NONE);
        AgreeTold rich = Edges.in(LAND.replace("before - after + 1", "99"));
        for (int i = 0; i < 60; i++) {
            Edges.told(rich, "s p e on 1 ;");
            rich.strike(0);
        }
        Edges.due("a purse of 60 times 99", rich.prophet(0, 1), 5940);
    }

    private static void comes() {
        Edges.sentence("A PERSON has an EVENT today: true; false: others, it has one, BARRED, the last day is over");
        AgreeTold told = Edges.in(LAND);
        int[][] others = {{-1, 0}, {2, 0}, {4, 0}, {0, -1}, {0, 2}, {0, 4}, {Integer.MIN_VALUE, 0}, {0, Integer.MAX_VALUE}};
        for (int[] other : others) {
            Edges.due("come(" + other[0] + ", " + other[1] + ")", told.come(other[0], other[1]), false);
        }
        Edges.told(told, "s p e on 1 ;", "s q f on 3 ;", "j p e on 2 and q e on 2 ;");
        Edges.due("BARRED", told.come(0, 1), false);
        Edges.due("nothing came", told.count(10), 3);
        Edges.due("SURE", told.come(0, 0), true);
        Edges.due("it has one", told.come(0, 0), false);
        Edges.due("it has another", told.come(0, 1), false);
        Edges.due("today", told.count(7), 1);
        Edges.sentence("once all have one, the next day is today (behind the last one nothing can come)");
        Edges.due("OPEN", told.come(1, 1), true);
        Edges.due("today", told.count(7), 2);
        Edges.due("the second day, the second one first", told.come(1, 0), true);
        Edges.due("what came bars", told.come(0, 0), false);
        Edges.due("the other one", told.come(0, 1), true);
        Edges.due("today", told.count(7), 3);
        Edges.due("BARRED on day 3", told.come(1, 0), false);
        Edges.due("day 3", told.come(1, 1), true);
        Edges.due("it has one", told.come(1, 1), false);
        Edges.due("today", told.count(7), 3);
        Edges.due("day 3", told.come(0, 0), true);
        Edges.due("over", told.count(7), 4);
        for (int person = 0; person < 2; person++) {
            for (int event = 0; event < 2; event++) {
                Edges.due("behind the last one", told.come(person, event), false);
            }
        }
        Edges.due("over", told.count(7), 4);
        Edges.due("futures(2)", told.futures(2), 1);
        Edges.due("what agrees may be told still", Texts.tell(told, "s p f on 2 ;"), 0);
        Edges.due("what does not may not", Texts.tell(told, "s p f on 3 ;"), Edges.NONE);
        Edges.sentence("The EVENT that came of a PERSON on a day (1 ..); NONE: others, none yet");
        int[][] came = {{0, 1, 0}, {1, 0, 1}};
        for (int person = -1; person <= 4; person++) {
            for (int day = -1; day <= 8; day++) {
                boolean known = person >= 0 && person < 2 && day >= 1 && day <= 3;
                Edges.due("came(" + person + ", " + day + ")", told.came(person, day), known ? came[person][day - 1] : Edges.NONE);
            }
        }
        AgreeTold young = Edges.in(LAND);
        young.come(1, 1);
        for (int day = 1; day <= 3; day++) {
            Edges.due("none yet", young.came(0, day), Edges.NONE);
            Edges.due("day " + day, young.came(1, day), day == 1 ? 1 : Edges.NONE);
        }
        Edges.due("nothing is LEFT", Edges.in(LAND + "law p e on 1 and p f on 1 ;").come(0, 0), false);
        Edges.due("no EVENT", Edges.in("days 1 ; person p tall 1 ;").come(0, 0), false);
        Edges.due("one FUTURE", Edges.in("days 1 ; person p tall 1 ; event e ;").come(0, 0), true);
    }

    private static void sixDaysOfFour() {
        Edges.sentence("once all have one, the next day is today");
        AgreeTold told = Edges.in("days 6 ; person a tall 1 ; person b tall 1 ; person c tall 1 ; person d tall 1 ; event e ;");
        for (int day = 1; day <= 6; day++) {
            for (int n = 0; n < 4; n++) {
                int person = (n + day) % 4;
                Edges.due("today", told.count(7), day);
                Edges.due("came", told.came(person, day), Edges.NONE);
                Edges.due("come", told.come(person, 0), true);
                Edges.due("came", told.came(person, day), 0);
            }
        }
        Edges.due("over", told.count(7), 7);
        Edges.due("over", told.come(0, 0), false);
        Edges.due("the last 16", told.count(10), 16);
        for (int i = 0; i < 16; i++) {
            Edges.due("undo", told.undo(), true);
            Edges.due("today behind " + (i + 1) + " undone", told.count(7), 6 - i / 4);
        }
        Edges.due("nothing can be", told.undo(), false);
        Edges.due("came on day 2", told.came(3, 2), 0);
        Edges.due("none yet on day 3", told.came(3, 3), Edges.NONE);
    }

    private static void twentyPromises() {
        Edges.sentence("A promise to a PERSON of one so tall (0 to 99): how many there are; NONE: others, 20 are there");
        AgreeTold told = Edges.in(LAND);
        int[][] others = {{-1, 5}, {2, 5}, {4, 5}, {0, -1}, {0, 100}, {0, Integer.MAX_VALUE}, {Integer.MIN_VALUE, 0}};
        for (int[] other : others) {
            Edges.due("promise(" + other[0] + ", " + other[1] + ")", told.promise(other[0], other[1]), Edges.NONE);
        }
        Edges.counts(told, "nothing was promised", 3, 2, 2, 5, 0, 0, 0, 1, 0, 0, 0, 0);
        int[] talls = {0, 99, 1, 98};
        for (int i = 1; i <= 20; i++) {
            Edges.due("promise " + i, told.promise(i % 2, talls[i % 4]), i);
            Edges.due("count(8)", told.count(8), i);
        }
        Edges.due("a 21st", told.promise(0, 0), Edges.NONE);
        Edges.due("count(8)", told.count(8), 20);
        Edges.due("undo", told.undo(), true);
        Edges.due("a 20th again", told.promise(1, 99), 20);
        Edges.due("a 21st again", told.promise(1, 99), Edges.NONE);
        Edges.due("nobody to promise to", Edges.in("days 1 ; event e ;").promise(0, 0), Edges.NONE);
    }

    private static void sixteen() {
        Edges.sentence("UNDO: the last 16, one by one; false: nothing can be");
        for (int many = 0; many <= 20; many++) {
            AgreeTold told = Edges.in(LAND);
            for (int i = 0; i < many; i++) {
                told.promise(0, i);
            }
            int can = Math.min(many, 16);
            Edges.due("count(10) of " + many, told.count(10), can);
            for (int i = 1; i <= can; i++) {
                Edges.due("undo " + i + " of " + many, told.undo(), true);
                Edges.due("count(8)", told.count(8), many - i);
                Edges.due("count(10)", told.count(10), can - i);
            }
            Edges.due("undo beyond", told.undo(), false);
            Edges.due("undo beyond", told.undo(), false);
            Edges.due("count(8)", told.count(8), many - can);
        }
        Edges.sentence("UNDO behind more than 16, again and again");
        AgreeTold told = Edges.in(LAND);
        for (int i = 0; i < 20; i++) {
            told.promise(0, i);
        }
        for (int round = 0; round < 10; round++) {
            for (int i = 0; i < 7; i++) {
                Edges.due("undo", told.undo(), true);
            }
            Edges.due("count(8)", told.count(8), 13);
            Edges.due("count(10)", told.count(10), 9);
            for (int i = 0; i < 7; i++) {
                Edges.due("promise", told.promise(1, 50), 14 + i);
            }
            Edges.due("count(10)", told.count(10), 16);
        }
        for (int i = 0; i < 16; i++) {
            told.undo();
        }
        Edges.due("count(8)", told.count(8), 4);
        Edges.due("count(10)", told.count(10), 0);
    }

    private static void whatIsUndone() {
        Edges.sentence("UNDO: SAYINGS, what was STRUCK, what came, promises");
        AgreeTold told = Edges.in(LAND);
        Edges.told(told, "s p e on 1 ;", "v q f on 2 ;");
        told.strike(0);
        told.come(0, 1);
        told.come(1, 0);
        told.promise(0, 20);
        Edges.told(told, "j p e on 3 ;");
        Edges.due("count(10)", told.count(10), 7);
        Edges.due("futures(2)", told.futures(2), 4);
        Edges.due("the saying", told.undo(), true);
        Edges.due("futures(2)", told.futures(2), 8);
        Edges.due("the fool's purse", told.prophet(2, 1), 20);
        Edges.due("the promise", told.undo(), true);
        Edges.due("count(8)", told.count(8), 0);
        Edges.due("what came", told.undo(), true);
        Edges.due("today", told.count(7), 1);
        Edges.due("came", told.came(1, 1), Edges.NONE);
        Edges.due("came", told.came(0, 1), 1);
        Edges.due("what came", told.undo(), true);
        Edges.due("came", told.came(0, 1), Edges.NONE);
        Edges.due("futures(2)", told.futures(2), 48);
        Edges.due("what was struck", told.undo(), true);
        Edges.due("it stands where it stood", told.saying(0, 0), 0);
        Edges.due("those behind it moved down", told.saying(1, 0), 1);
        Edges.due("futures(2)", told.futures(2), 24);
        Edges.due("the purse as it was", told.prophet(0, 1), 33);
        Edges.due("the saying", told.undo(), true);
        Edges.due("the vague one's purse", told.prophet(1, 1), 10);
        Edges.due("the saying", told.undo(), true);
        Edges.due("the purse", told.prophet(0, 1), 0);
        Edges.counts(told, "all is as ahead", 3, 2, 2, 5, 0, 0, 0, 1, 0, 0, 0, 0);
        Edges.due("futures(2)", told.futures(2), 64);
        Edges.due("a grand one's can be undone", Texts.tell(told, "g p e on 1 ;"), 0);
        Edges.due("undo", told.undo(), true);
        Edges.due("futures(2)", told.futures(2), 64);
    }

    private static void whatIsNotUndone() {
        Edges.sentence("what is refused, ASKED, fed, marked or looked at is nothing that can be undone");
        AgreeTold told = Edges.in(LAND);
        Edges.told(told, "s p e on 1 ;");
        Texts.tell(told, "s p f on 1 ;");
        Texts.tell(told, "w p f on 1 ;");
        Texts.tell(told, "s p");
        Edges.asks(told, "p e on 2");
        told.strike(9);
        told.come(0, 1);
        told.come(9, 1);
        told.promise(0, 100);
        told.mark(0, false);
        told.mark(1, true);
        told.year(1, 60, 0);
        told.fair(1, 0, 1);
        told.why();
        told.struck();
        told.auction(0);
        Texts.feed(told, "some signs");
        Edges.due("count(10)", told.count(10), 1);
        Edges.due("undo", told.undo(), true);
        Edges.due("count(6)", told.count(6), 0);
        Edges.due("ASKED stays", told.count(9), 1);
        Edges.due("asked(0)", told.asked(0), 32);
        Edges.due("the TAPE stays", told.count(11), 10);
        Edges.due("undo", told.undo(), false);
        Edges.due("the MARK stays", told.mark(0, true), true);
        Edges.due("count(6)", told.count(6), 1);
    }

    private static void fourMarks() {
        Edges.sentence("MARKS 0 to 3; false: none such, nothing is on it (back)");
        AgreeTold told = Edges.in(LAND);
        for (int mark : new int[] {-1, 4, 5, Integer.MIN_VALUE, Integer.MAX_VALUE}) {
            Edges.due("mark(" + mark + ", false)", told.mark(mark, false), false);
            Edges.due("mark(" + mark + ", true)", told.mark(mark, true), false);
        }
        for (int mark = 0; mark < 4; mark++) {
            Edges.due("nothing is on " + mark, told.mark(mark, true), false);
            Edges.due("laid " + mark, told.mark(mark, false), true);
            told.promise(0, mark);
        }
        for (int mark = 3; mark >= 0; mark--) {
            Edges.due("back to " + mark, told.mark(mark, true), true);
            Edges.due("count(8)", told.count(8), mark);
        }
        Edges.due("forth to 3", told.mark(3, true), true);
        Edges.due("count(8)", told.count(8), 3);
        Edges.due("laid once more", told.mark(1, false), true);
        told.promise(0, 50);
        Edges.due("back to it", told.mark(1, true), true);
        Edges.due("count(8)", told.count(8), 3);
        Edges.sentence("A MARK is gone with the LAND");
        Edges.due("a fault", Texts.land(told, "days 7 ;"), Edges.fault(4, 5));
        Edges.due("it is there still", told.mark(0, true), true);
        Edges.due("the same land", Texts.land(told, LAND), 0);
        for (int mark = 0; mark < 4; mark++) {
            Edges.due("nothing is on " + mark, told.mark(mark, true), false);
        }
    }

    private static void whatMarksHold() {
        Edges.sentence("MARKS hold SAYINGS, purses, ASKED, what came, promises (nothing can be undone when one is gone back to)");
        AgreeTold told = Edges.in(LAND);
        Edges.told(told, "s p e on 1 ;", "v q e on 2 ;");
        Edges.asks(told, "p e on 2");
        told.come(0, 0);
        told.promise(1, 10);
        told.mark(2, false);
        Edges.due("laying undoes nothing", told.count(10), 4);
        told.strike(0);
        Edges.told(told, "j q e on 3 ;");
        Edges.asks(told, "p e on 2 and q f on 1");
        told.come(1, 1);
        told.come(1, 0);
        told.promise(0, 30);
        told.promise(0, 30);
        Texts.feed(told, "abc");
        Edges.due("back", told.mark(2, true), true);
        Edges.counts(told, "back", 3, 2, 2, 5, 0, 0, 2, 1, 1, 1, 0, 3);
        Edges.due("sayings", told.saying(0, 0), 0);
        Edges.due("sayings", told.saying(1, 0), 1);
        Edges.due("purse", told.prophet(0, 1), 33);
        Edges.due("purse", told.prophet(2, 1), 20);
        Edges.due("asked(0)", told.asked(0), 12);
        Edges.due("came", told.came(0, 1), 0);
        Edges.due("came", told.came(1, 1), Edges.NONE);
        Edges.due("came", told.came(1, 2), Edges.NONE);
        Edges.due("futures(2)", told.futures(2), 24);
        Edges.due("kept", told.kept(), 1);
        Edges.due("nothing can be undone", told.undo(), false);
        told.promise(0, 5);
        Edges.due("what is done behind it can", told.count(10), 1);
        Edges.due("undo", told.undo(), true);
        Edges.due("no further", told.undo(), false);
        Edges.due("count(8)", told.count(8), 1);
        AgreeTold other = Edges.in(LAND);
        other.promise(0, 99);
        other.promise(1, 15);
        other.mark(0, false);
        other.undo();
        other.undo();
        other.promise(1, 5);
        other.promise(0, 5);
        Edges.due("kept()", other.kept(), 2);
        Edges.due("shorted()", other.shorted(), Edges.NONE);
        Edges.due("back", other.mark(0, true), true);
        Edges.due("to whom and how tall", other.kept(), 0);
        Edges.due("how tall", other.shorted(), 99);
        AgreeTold early = Edges.in(LAND);
        early.mark(0, false);
        Edges.asks(early, "p e on 2");
        Edges.told(early, "s p e on 2 ;");
        Edges.due("back", early.mark(0, true), true);
        Edges.due("nothing is ASKED", early.count(9), 0);
        Edges.due("nothing is ASKED", early.asked(1), Edges.NONE);
        Edges.due("futures(2)", early.futures(2), 64);
        Edges.due("purse", early.prophet(0, 1), 0);
    }

    private static void lastCall() {
        Edges.sentence("An object is used for at most 512 calls");
        AgreeTold told = new AgreeTold();
        int calls = (LAND.length() + 23) / 24 + 1;
        Edges.due("land", Texts.land(told, LAND) + told.count(11), 0);
        // count(11) was asked twice, once by the feeding itself
        calls += 2;
        for (; calls + 3 <= 512; calls += 3) {
            told.promise(0, 99);
            Edges.due("shorted() at call " + (calls + 2), told.shorted(), 99);
            Edges.due("undo() at call " + (calls + 3), told.undo(), true);
        }
        for (; calls < 512; calls++) {
            Edges.due("futures(2) at call " + (calls + 1), told.futures(2), 64);
        }
    }

    public static void main(String[] args) {
        lastCall();
        prophets();
        withTheLawsAlone();
        strikes();
        comes();
        sixDaysOfFour();
        twentyPromises();
        sixteen();
        whatIsUndone();
        whatIsNotUndone();
        fourMarks();
        whatMarksHold();
        Edges.end();
    }
}
