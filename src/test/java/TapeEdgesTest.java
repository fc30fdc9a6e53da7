/** The edges of the tape and of its tokens, and of promise 2. */
public final class TapeEdgesTest {
    private static final String LAND = "days 1 ; person p tall 1 ; event e ; event f ; prophet s plain purse 0 ;"
        + " prophet w weather purse 0 ;";

    private TapeEdgesTest() {
    }

    private static String blanks(int many) {
        return " ".repeat(many);
    }

    private static void whichSigns() {
        Edges.sentence("signs, 10 and 32 .. 126; others are left out: how many there are");
        for (int sign = 0; sign < 256; sign++) {
            int want = sign == 10 || sign >= 32 && sign <= 126 ? 1 : 0;
            for (int place = 0; place < 24; place += 23) {
                AgreeTold told = new AgreeTold();
                long high = place == 0 ? (long) sign << 56 : 0L;
                long low = place == 23 ? sign : 0L;
                Edges.due("feed of sign " + sign, told.feed(high, 0L, low), want);
                Edges.due("count(11) behind sign " + sign, told.count(11), want);
            }
        }
        AgreeTold told = new AgreeTold();
        Edges.due("feed of 24 signs", told.feed(0x6161616161616161L, 0x6161616161616161L, 0x6161616161616161L), 24);
        Edges.due("feed of none", told.feed(0L, -1L, 0x7F7F7F7F7F7F7F7FL), 24);
    }

    private static void order() {
        Edges.sentence("the bytes of a, b, c, of each the highest first, come behind the TAPE");
        AgreeTold told = new AgreeTold();
        told.feed(0x6461797300000000L, 0x0000000000000034L, 0x3B00000000000000L);
        Edges.due("land of days, 4, ; in a, b, c", told.land(), 0);
        Edges.due("count(0)", told.count(0), 4);
        told.feed(0x6400610079007300L, 0x3500000000000000L, 0x000000000000003BL);
        Edges.due("land of a word with others between its letters", told.land(), 0);
        Edges.due("count(0)", told.count(0), 5);
        told.feed(0L, 0L, 0x6461L);
        told.feed(0x7973200000000000L, 0L, 0x00000000000033L);
        told.feed(0x3B00000000000000L, 0L, 0L);
        Edges.due("land of a word over two calls", told.land(), 0);
        Edges.due("count(0)", told.count(0), 3);
    }

    private static void thousand() {
        Edges.sentence("The TAPE has at most 1,000 signs; what is beyond 1,000 is left out");
        AgreeTold told = new AgreeTold();
        Edges.due("feed up to 999", Texts.feed(told, blanks(999)), 999);
        Edges.due("feed of one more", Texts.feed(told, ";"), 1000);
        Edges.due("feed beyond", Texts.feed(told, ";"), 1000);
        Edges.due("count(11)", told.count(11), 1000);
        Edges.due("the last one is there", told.land(), Edges.fault(1, 999));
        Edges.due("feed up to 990", Texts.feed(told, blanks(990)), 990);
        Edges.due("ten of 24", Texts.feed(told, "days 6 ;  zzzzzzzzzzzzzz"), 1000);
        Edges.due("the first ten came", told.land(), 0);
        Edges.due("count(0)", told.count(0), 6);
        Texts.feed(told, blanks(992) + "days 5 ;");
        Edges.due("a text of 1,000", told.land(), 0);
        Edges.due("count(0)", told.count(0), 5);
        Texts.feed(told, blanks(993) + "days 4 ;");
        Edges.due("a text of 1,001", told.land(), Edges.fault(1, 1000));
        Edges.due("count(0)", told.count(0), 5);
        Texts.feed(told, blanks(1000));
        Edges.due("blanks alone", told.tell(), Edges.fault(1, 1000));
        Texts.feed(told, blanks(500) + "days 2 ;" + blanks(492));
        Edges.due("blanks behind", told.land(), 0);
        Texts.feed(told, "q".repeat(1000));
        Edges.due("a word of 1,000", told.ask(), 1);
        Texts.feed(told, "7".repeat(1000));
        Edges.due("a number of 1,000", told.tell(), 1);
        Texts.feed(told, ";".repeat(1000));
        Edges.due("1,000 tokens", told.ask(), 1);
    }

    private static void taken(AgreeTold told, String text, String by, int want) {
        Edges.due("feed of " + text, Texts.feed(told, text), text.length());
        int got = by.equals("land") ? told.land() : by.equals("tell") ? told.tell() : told.ask();
        Edges.due(by + " of " + text, got, want);
        Edges.due("count(11) behind it", told.count(11), 0);
    }

    private static void taking() {
        Edges.sentence("what reads it takes it: it is empty then");
        AgreeTold told = new AgreeTold();
        taken(told, "days 9 ;", "land", Edges.fault(4, 5));
        taken(told, LAND, "land", 0);
        taken(told, "s p", "tell", Edges.fault(1, 3));
        taken(told, "s p e on 1 ;", "tell", 0);
        taken(told, "s p f on 1 ;", "tell", Edges.NONE);
        taken(told, "w p e on 1 ;", "tell", -2);
        taken(told, "p q", "ask", Edges.fault(2, 2));
        taken(told, "p e ever ;", "ask", 0);
        for (int i = 1; i < 12; i++) {
            taken(told, "s p e on 1 ;", "tell", 0);
        }
        taken(told, "s p e on 1 ;", "tell", -3);
        Edges.due("an empty tape", told.land(), 1);
        Edges.due("an empty tape", told.tell(), 1);
        Edges.due("an empty tape", told.ask(), 1);
        Edges.due("what is told stays", told.count(6), 12);
    }

    private static void words() {
        Edges.sentence("WORDS (letters a .. z, 8 at most); a longer WORD is none, at its first sign");
        for (int letters = 1; letters <= 20; letters++) {
            int want = letters <= 8 ? 0 : Edges.fault(1, 15);
            Edges.landed("days 1 ; event " + "k".repeat(letters) + " ;", want);
        }
        Edges.landed("days 1 ; event together ;", Edges.fault(1, 15));
        Edges.landed("days 1 ; event togethe ; event togethes ;", 0);
        Edges.landed("days 1 ; event togethers ;", Edges.fault(1, 15));
        Edges.landed("days 1 ; event a ; event z ; event az ; event za ;", 0);
        Edges.landed("days 1 ; event a ; event aa ; event aaaaaaa ; event aaaaaaaa ;", 0);
        for (int place = 0; place < 8; place++) {
            String other = "a".repeat(place) + "b" + "a".repeat(7 - place);
            Edges.landed("days 1 ; event aaaaaaaa ; event " + other + " ;", 0);
        }
        Edges.landed("days 1 ; event abcdefgh ; event abcdefgh ;", Edges.fault(3, 32));
        Edges.landed("dayss 1 ;", 1);
        Edges.landed("dayseven 1 ;", 1);
        for (char sign : "`{@[AZ".toCharArray()) {
            Edges.landed("days 1 ; event " + sign + "a ;", Edges.fault(1, 15));
            Edges.landed("days 1 ; event a" + sign + " ;", Edges.fault(1, 16));
        }
    }

    private static void numbers() {
        Edges.sentence("NUMBERS (1 to 4 digits; a letter may stand right behind); a longer NUMBER is none, at its first sign");
        for (int digits = 1; digits <= 12; digits++) {
            int want = digits <= 4 ? 0 : Edges.fault(1, 5);
            Edges.landed("days " + "0".repeat(digits - 1) + "6 ;", want);
        }
        Edges.landed("days 1 ; price 9999 ;", 0);
        Edges.landed("days 1 ; price 09999 ;", Edges.fault(1, 15));
        Edges.landed("days 1 ; price 10000 ;", Edges.fault(1, 15));
        Edges.landed("days 1 ; price 4294967297 ;", Edges.fault(1, 15));
        Edges.landed("days 1 ; person p tall 18446744073709551617 ;", Edges.fault(1, 23));
        Edges.landed("days1;event e;person p tall9;law p e on1and p e by1or p e from1;", 0);
        Edges.landed("days 1 ; price 1and 0000or 9999 ;", 0);
        Edges.landed("days 00001x ;", Edges.fault(1, 5));
        Edges.landed("days 6x ;", Edges.fault(1, 6));
        for (char sign : "/:".toCharArray()) {
            Edges.landed("days " + sign + " ;", Edges.fault(1, 5));
            Edges.landed("days 1" + sign + " ;", Edges.fault(1, 6));
        }
    }

    private static void otherSigns() {
        Edges.sentence("blanks (10, 32) between where one likes; all else is none");
        for (char sign = 33; sign <= 126; sign++) {
            Edges.landed("days 1 ;" + sign, Edges.fault(1, 8));
            Edges.landed(sign + "days 1 ;", 1);
            Edges.landed("days 1 ;\n \n" + sign + " ", Edges.fault(1, 11));
        }
        Edges.landed("\n\n days\n\n1 \n;\n \n", 0);
        Edges.landed("days1;", 0);
        Edges.landed("days 1 ; event e ; law((all e ever)or(some e never)) ;", 0);
        Edges.landed("days 1 ; price(1+2)*3-4<5 ;", 0);
        Edges.landed("da ys 1 ;", 1);
        Edges.landed("days 1 ; price 1 0 ;", Edges.fault(1, 17));
    }

    private static void places() {
        Edges.sentence("the place (from 0) of a token, the end being one at the text's length");
        Edges.landed("", 1);
        Edges.landed(" ", Edges.fault(1, 1));
        Edges.landed("\n\n\n", Edges.fault(1, 3));
        Edges.landed("days 1", Edges.fault(1, 6));
        Edges.landed("days 1   ", Edges.fault(1, 9));
        Edges.landed("days 1 ; event\n", Edges.fault(1, 15));
        Edges.landed("   days 9 ;", Edges.fault(4, 8));
        AgreeTold told = Edges.in(LAND);
        Edges.due("a saying's end", Texts.tell(told, "s p e on 1  "), Edges.fault(1, 12));
        Edges.due("a saying's token", Texts.tell(told, "\ns p e on\n9 ;"), Edges.fault(4, 10));
        Edges.due("the asked one's end", Texts.ask(told, "p e on 1"), Edges.fault(1, 8));
        Edges.due("the asked one's first token", Texts.ask(told, "q e on 1 ;"), 2);
    }

    public static void main(String[] args) {
        whichSigns();
        order();
        thousand();
        taking();
        words();
        numbers();
        otherSigns();
        places();
        Edges.end();
    }
}
