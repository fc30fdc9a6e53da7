/** The edges of the text of a land and of its faults, and of promises 1, 3 and 6. */
public final class LandEdgesTest {
    private static final String DAYS = "days 2 ; ";
    private static final String START = "days 2 ; person pp tall 1 ; person qq tall 2 ; event ee ; event ff ;"
        + " prophet ss plain purse 0 ; ";
    private static final int AT = START.length();
    /** Every kind of line, every WHO, every WHEN, every sign. */
    private static final String WHOLE = "days 2 ; person pp tall 1 ; person qq tall 2 ; event ee ; event ff ;"
        + " prophet ss plain purse 0 ; prophet vv vague purse 1 ; law pp ee on 1 or not ( some ff by 2 and all ff from 1 ) ;"
        + " law together pp qq ee and ahead qq pp ff or pp ee ever ; wish ss for 9 qq ee never or pp ee times 0 ;"
        + " wish vv for 0 all ee most 2 ; price ( before + 2 ) * after - told < 7 and not 1 or 3 = 4 ; ";

    private LandEdgesTest() {
    }

    private static String people(int many) {
        StringBuilder text = new StringBuilder();
        for (int i = 0; i < many; i++) {
            text.append("person p").append((char) ('a' + i)).append(" tall ").append(i).append(" ; ");
        }
        return text.toString();
    }

    private static String events(int many) {
        StringBuilder text = new StringBuilder();
        for (int i = 0; i < many; i++) {
            text.append("event e").append((char) ('a' + i)).append(" ; ");
        }
        return text.toString();
    }

    private static String prophets(int many) {
        StringBuilder text = new StringBuilder();
        for (int i = 0; i < many; i++) {
            text.append("prophet s").append((char) ('a' + i)).append(" fool purse ").append(i).append(" ; ");
        }
        return text.toString();
    }

    private static void newObject() {
        Edges.sentence("At first: days 1, nothing else");
        AgreeTold told = new AgreeTold();
        Edges.counts(told, "at first", 1, 0, 0, 0, 0, 0, 0, 1, 0, 0, 0, 0);
        Edges.due("tall", told.tall(0), Edges.NONE);
        Edges.due("prophet", told.prophet(0, 1), Edges.NONE);
        Edges.due("wish", told.wish(0, 0), Edges.NONE);
        Edges.due("saying", told.saying(0, 0), Edges.NONE);
        Edges.due("came", told.came(0, 1), Edges.NONE);
        Edges.due("word", told.word(0, 1, 0), Edges.NONE);
        Edges.due("holds", told.holds(0, 1, 0), Edges.NONE);
        Edges.due("making", told.making(0, 1, 0, Edges.NONE), Edges.NONE);
        Edges.due("vague", told.vague(0, 0, 0), Edges.NONE);
        Edges.due("span", told.span(0, 0, 0), Edges.NONE);
        Edges.due("first", Edges.firstOf(told, 0, 1, 0), Edges.THROWN);
        Edges.due("knew", told.knew(0, 0), Edges.NONE);
        Edges.due("duel", told.duel(0, 1, 0), Edges.NONE);
        Edges.due("strike", told.strike(0), false);
        Edges.due("undo", told.undo(), false);
        for (int mark = 0; mark < 4; mark++) {
            Edges.due("mark " + mark, told.mark(mark, true), false);
        }
        Edges.due("a prophet is unknown", Texts.tell(told, "a"), 2);
        Edges.due("a person is unknown", Texts.ask(told, "a"), 2);
        Edges.due("an event is unknown", Texts.ask(told, "all a"), Edges.fault(2, 4));
    }

    private static void days() {
        Edges.sentence("days N ; first (1 to 6)");
        for (int days = 0; days <= 12; days++) {
            AgreeTold told = new AgreeTold();
            boolean fits = days >= 1 && days <= 6;
            Edges.due("days " + days, Texts.land(told, "days " + days + " ;"), fits ? 0 : Edges.fault(4, 5));
            Edges.due("count(0) behind days " + days, told.count(0), fits ? days : 1);
        }
        Edges.landed("days 9999 ;", Edges.fault(4, 5));
        Edges.landed("days x ;", Edges.fault(1, 5));
        Edges.landed("days days ;", Edges.fault(1, 5));
        Edges.sentence("1 it can't stand there (another line than days first, days again)");
        for (String line : new String[] {"person p tall 1 ;", "event e ;", "prophet s plain purse 0 ;", "law all e ever ;",
            "wish s for 1 all e ever ;", "price 1 ;", "; days 1 ;", "1 ;", "( days 1 ;", "x ;"}) {
            Edges.landed(line, 1);
        }
        Edges.landed("days 1 ; days 1 ;", Edges.fault(1, 9));
        Edges.landed(START + "days 2 ;", Edges.fault(1, AT));
        for (String word : Oracle.KEYWORDS) {
            boolean line = "person event prophet law wish price".contains(word);
            if (!line || word.length() < 3) {
                Edges.landed(START + word, Edges.fault(1, AT));
            }
        }
        for (String token : new String[] {"x", "pp", "1", "(", ")", "<", "=", "+", "-", "*", ";", "#"}) {
            Edges.landed(START + token, Edges.fault(1, AT));
        }
    }

    private static void fourPeople() {
        Edges.sentence("person: 4 at most, numbered as told; 5 the word person of a fifth");
        for (int many = 0; many <= 4; many++) {
            AgreeTold told = Edges.in(DAYS + people(many));
            Edges.due("count(1)", told.count(1), many);
            for (int i = -1; i <= 5; i++) {
                Edges.due("tall(" + i + ") of " + many, told.tall(i), i >= 0 && i < many ? i : Edges.NONE);
            }
        }
        int at = (DAYS + people(4)).length();
        Edges.landed(DAYS + people(5), Edges.fault(5, at));
        Edges.landed(DAYS + people(4) + "person", Edges.fault(5, at));
        Edges.landed(DAYS + people(4) + "person pa tall 100", Edges.fault(5, at));
        Edges.sentence("tall 0 to 99");
        for (int tall : new int[] {0, 1, 98, 99}) {
            Edges.due("tall " + tall, Edges.in(DAYS + "person p tall " + tall + " ;").tall(0), tall);
        }
        Edges.landed(DAYS + "person p tall 100 ;", Edges.fault(4, 23));
        Edges.landed(DAYS + "person p tall 9999 ;", Edges.fault(4, 23));
        Edges.landed(DAYS + "person p tall 0099 ;", 0);
        Edges.landed(DAYS + "person p tall 0100 ;", Edges.fault(4, 23));
    }

    private static void fourEvents() {
        Edges.sentence("event: 4 at most, numbered as told; 5 the word event of a fifth");
        for (int many = 0; many <= 4; many++) {
            Edges.due("count(2)", Edges.in(DAYS + events(many)).count(2), many);
        }
        int at = (DAYS + events(4)).length();
        Edges.landed(DAYS + events(5), Edges.fault(5, at));
        Edges.landed(DAYS + events(4) + "event", Edges.fault(5, at));
        Edges.landed(DAYS + events(4) + "event ea ;", Edges.fault(5, at));
        AgreeTold told = Edges.in("days 1 ; person p tall 1 ; " + events(4) + "prophet s plain purse 0 ;");
        Edges.told(told, "s p ed on 1 ;");
        for (int event = 0; event < 4; event++) {
            Edges.due("word of event " + event, told.word(0, 1, event), event == 3 ? 1 : 0);
        }
    }

    /** Tells people and events in an order, one more each time, until the futures or the limits are passed. */
    private static void grow(int days, String order) {
        String text = "days " + days + " ; ";
        int people = 0;
        int events = 0;
        for (char what : order.toCharArray()) {
            people += what == 'p' ? 1 : 0;
            events += what == 'e' ? 1 : 0;
            int place = text.length();
            String line = what == 'p' ? "person p" + (char) ('a' + people) + " tall 1 ; " : "event e" + (char) ('a' + events) + " ; ";
            text += line;
            double futures = people == 0 || events == 0 ? 1 : Math.pow(events, people * days);
            if (futures > 32768 || people > 4 || events > 4) {
                Edges.landed(text, Edges.fault(5, place));
                return;
            }
            Edges.due("futures(0) of " + text, Edges.in(text).futures(0), (long) futures);
        }
    }

    private static void futuresAtMost() {
        Edges.sentence("With them FUTURES are 32,768 at most; 5 (or by which FUTURES would be more than 32,768)");
        for (int days = 1; days <= 6; days++) {
            for (String order : new String[] {"ppppeeeee", "eeeeppppp", "pepepepepe", "epepepepep", "ppeeppeep", "eeppppee",
                "peeeepppp", "eppppeeee", "pppeee", "eepppp", "eeepppp", "ppee", "eeppee"}) {
                grow(days, order);
            }
        }
        String most = "days 5 ; " + people(3) + events(2);
        Edges.due("2 to the 15th", Edges.in(most).futures(2), 32768);
        Edges.landed(most + "event", Edges.fault(5, most.length()));
        Edges.landed(most + "person", Edges.fault(5, most.length()));
        Edges.due("3 to the 9th", Edges.in("days 3 ; " + people(3) + events(3)).futures(0), 19683);
        Edges.due("4 to the 6th", Edges.in("days 6 ; " + people(1) + events(4)).futures(0), 4096);
        Edges.sentence("Without PEOPLE or EVENTS there is one, 0, nobody having any");
        Edges.due("people alone", Edges.in("days 6 ; " + people(4)).futures(0), 1);
        Edges.due("events alone", Edges.in("days 6 ; " + events(4)).futures(2), 1);
        Edges.due("people alone", Edges.in("days 6 ; " + people(4)).fair(1, 0, 1), Edges.NONE);
        Edges.due("some of nobody", Edges.in("days 1 ; event e ; law some e never ;").futures(1), 0);
        Edges.due("all of nobody", Edges.in("days 1 ; event e ; law all e ever ; law all e never ;").futures(1), 1);
    }

    private static void fiveProphets() {
        Edges.sentence("prophet: 5 at most, numbered as told; 5 the word prophet of a sixth");
        for (int many = 0; many <= 5; many++) {
            AgreeTold told = Edges.in(DAYS + prophets(many));
            Edges.due("count(3)", told.count(3), many);
            for (int i = -1; i <= 6; i++) {
                Edges.due("purse of " + i, told.prophet(i, 1), i >= 0 && i < many ? i : Edges.NONE);
            }
        }
        int at = (DAYS + prophets(5)).length();
        Edges.landed(DAYS + prophets(6), Edges.fault(5, at));
        Edges.landed(DAYS + prophets(5) + "prophet sa loud", Edges.fault(5, at));
        Edges.sentence("KIND: plain, vague, fool, grand, weather");
        String[] kinds = {"plain", "vague", "fool", "grand", "weather"};
        for (int kind = 0; kind < kinds.length; kind++) {
            Edges.due(kinds[kind], Edges.in(DAYS + "prophet s " + kinds[kind] + " purse 0 ;").prophet(0, 0), kind);
        }
        for (String other : new String[] {"most", "not", "never", "purse", "s", "1", "(", "loud", "plains"}) {
            Edges.landed(DAYS + "prophet s " + other + " purse 0 ;", Edges.fault(1, 19));
        }
        Edges.sentence("purse 0 to 999");
        for (int purse : new int[] {0, 1, 998, 999}) {
            Edges.due("purse " + purse, Edges.in(DAYS + "prophet s grand purse " + purse + " ;").prophet(0, 1), purse);
        }
        Edges.landed(DAYS + "prophet s grand purse 1000 ;", Edges.fault(4, 31));
        Edges.landed(DAYS + "prophet s grand purse 9999 ;", Edges.fault(4, 31));
    }

    private static void lawsWishesPrice() {
        Edges.sentence("law: 4 at most; 5 law of a fifth");
        for (int many = 0; many <= 4; many++) {
            Edges.due("count(4)", Edges.in(START + "law pp ee ever ; ".repeat(many)).count(4), many);
        }
        String laws = START + "law pp ee ever ; ".repeat(4);
        Edges.landed(laws + "law pp ee ever ;", Edges.fault(5, laws.length()));
        Edges.landed(laws + "law", Edges.fault(5, laws.length()));
        AgreeTold four = Edges.in(START + "law pp ee on 1 ; law pp ee on 2 ; law qq ee on 1 ; law qq ff on 2 ;");
        Edges.due("each law counts", four.futures(1), 1);
        Edges.sentence("wish: 6 at most, numbered as told; 5 wish of a seventh");
        for (int many = 0; many <= 6; many++) {
            AgreeTold told = Edges.in(START + "wish ss for 7 pp ee ever ; ".repeat(many));
            Edges.due("count(5)", told.count(5), many);
            for (int i = -1; i <= 7; i++) {
                Edges.due("coins of " + i, told.wish(i, 1), i >= 0 && i < many ? 7 : Edges.NONE);
            }
            Edges.due("wishes as bits", told.prophet(0, 3), (1 << many) - 1);
        }
        String wishes = START + "wish ss for 7 pp ee ever ; ".repeat(6);
        Edges.landed(wishes + "wish", Edges.fault(5, wishes.length()));
        Edges.landed(wishes + "wish pp", Edges.fault(5, wishes.length()));
        Edges.sentence("of a PROPHET told, so many coins (0 to 99)");
        for (int coins : new int[] {0, 1, 98, 99}) {
            Edges.due("coins", Edges.in(START + "wish ss for " + coins + " pp ee ever ;").wish(0, 1), coins);
        }
        Edges.landed(START + "wish ss for 100 pp ee ever ;", Edges.fault(4, AT + 12));
        Edges.landed(START + "wish tt for 1 pp ee ever ;", Edges.fault(2, AT + 5));
        Edges.landed("days 1 ; event e ; wish ss for 1 all e ever ; prophet ss plain purse 0 ;", Edges.fault(2, 24));
        Edges.sentence("price: once; 3 price a second time");
        Edges.landed(START + "price 1 ; price 2 ;", Edges.fault(3, AT + 10));
        Edges.landed(START + "price 1 ; law pp ee ever ; price", Edges.fault(3, AT + 27));
        Edges.landed(START + "price ;", Edges.fault(1, AT + 6));
    }

    private static void names() {
        Edges.sentence("A NAME is another WORD than days, person, .. or");
        Edges.due("how many words these are", Oracle.KEYWORDS.size(), 29);
        for (String word : Oracle.KEYWORDS) {
            Edges.landed("days 1 ; person " + word + " tall 1 ;", Edges.fault(1, 16));
            Edges.landed("days 1 ; event " + word + " ;", Edges.fault(1, 15));
            Edges.landed("days 1 ; prophet " + word + " plain purse 0 ;", Edges.fault(1, 17));
            Edges.landed(START + "wish " + word, Edges.fault(1, AT + 5));
            Edges.landed(START + "law pp " + word, Edges.fault(1, AT + 7));
            Edges.landed(START + "law together " + word, Edges.fault(1, AT + 13));
            Edges.landed(START + "law ahead pp " + word, Edges.fault(1, AT + 13));
        }
        for (String word : new String[] {"before", "after", "told", "kind", "left", "day", "laws", "alls", "a", "tal"}) {
            Edges.landed("days 1 ; person " + word + " tall 1 ;", 0);
            Edges.landed("days 1 ; event " + word + " ; law all " + word + " ever ;", 0);
            Edges.landed("days 1 ; prophet " + word + " plain purse 0 ;", 0);
        }
        Edges.sentence("no two (PEOPLE, EVENTS, PROPHETS) are alike; 3 a NAME told already");
        String[] first = {"person x tall 1 ; ", "event x ; ", "prophet x plain purse 0 ; "};
        String[] second = {"person ", "event ", "prophet "};
        for (String one : first) {
            for (String two : second) {
                String text = DAYS + one + two;
                Edges.landed(text + "x", Edges.fault(3, text.length()));
                Edges.landed(text + "x ;", Edges.fault(3, text.length()));
                Edges.landed(text + "y", Edges.fault(1, text.length() + 1));
            }
        }
        Edges.landed(DAYS + "person a tall 1 ; person b tall 1 ; event c ; event d ; prophet b", Edges.fault(3, DAYS.length() + 64));
    }

    private static void unknownNames() {
        Edges.sentence("2 a NAME of no PERSON told (where EVENT must be of no EVENT, where PROPHET must be of no PROPHET)");
        for (String other : new String[] {"ee", "ss", "xx"}) {
            Edges.landed(START + "law " + other, Edges.fault(2, AT + 4));
            Edges.landed(START + "law together " + other, Edges.fault(2, AT + 13));
            Edges.landed(START + "law ahead pp " + other, Edges.fault(2, AT + 13));
            Edges.landed(START + "wish ss for 1 " + other, Edges.fault(2, AT + 14));
        }
        for (String other : new String[] {"pp", "ss", "xx"}) {
            Edges.landed(START + "law pp " + other, Edges.fault(2, AT + 7));
            Edges.landed(START + "law some " + other, Edges.fault(2, AT + 9));
            Edges.landed(START + "law all " + other, Edges.fault(2, AT + 8));
            Edges.landed(START + "law together pp qq " + other, Edges.fault(2, AT + 19));
            Edges.landed(START + "law ahead pp qq " + other, Edges.fault(2, AT + 16));
        }
        for (String other : new String[] {"pp", "ee", "xx"}) {
            Edges.landed(START + "wish " + other, Edges.fault(2, AT + 5));
        }
        Edges.landed("days 1 ; event e ; law p e ever ; person p tall 1 ;", Edges.fault(2, 23));
        Edges.landed("days 1 ; person p tall 1 ; law p e ever ; event e ;", Edges.fault(2, 33));
        Edges.landed(START + "law 1", Edges.fault(1, AT + 4));
        Edges.landed(START + "law pp 1", Edges.fault(1, AT + 7));
        Edges.landed(START + "wish 1", Edges.fault(1, AT + 5));
        Edges.sentence("3 the second NAME of together, ahead that is the first one");
        Edges.landed(START + "law together pp pp", Edges.fault(3, AT + 16));
        Edges.landed(START + "law ahead qq qq", Edges.fault(3, AT + 13));
        Edges.landed(START + "law together qq pp ee ; law ahead pp qq ff ;", 0);
        Edges.landed(START + "law together xx xx", Edges.fault(2, AT + 13));
    }

    private static void whenNumbers() {
        for (int days = 1; days <= 6; days++) {
            String start = "days " + days + " ; person p tall 1 ; event e ; law p e ";
            for (int n = 0; n <= 8; n++) {
                Edges.sentence("on N, by N, from N (N: 1 to how many days); 4 a NUMBER that is not as told");
                for (String when : new String[] {"on ", "by ", "from "}) {
                    int want = n >= 1 && n <= days ? 0 : Edges.fault(4, start.length() + when.length());
                    Edges.landed(start + when + n + " ;", want);
                }
                Edges.sentence("times N, most N (0 to how many days); 4 a NUMBER that is not as told");
                for (String when : new String[] {"times ", "most "}) {
                    int want = n <= days ? 0 : Edges.fault(4, start.length() + when.length());
                    Edges.landed(start + when + n + " ;", want);
                }
            }
        }
        Edges.sentence("WHEN: ever, never take no N");
        Edges.landed(START + "law pp ee ever 1 ;", Edges.fault(1, AT + 15));
        Edges.landed(START + "law pp ee never 1 ;", Edges.fault(1, AT + 16));
        Edges.landed(START + "law pp ee on ;", Edges.fault(1, AT + 13));
        Edges.landed(START + "law pp ee on on ;", Edges.fault(1, AT + 13));
        for (String other : new String[] {"in", "and", ";", "1", "plain", "ahead", "pp"}) {
            Edges.landed(START + "law pp ee " + other + " 1 ;", Edges.fault(1, AT + 10));
        }
    }

    /** Every mix of so many not and ( around a part, and what stands behind it to close them. */
    private static String[] wrapped(int mix, int deep, String part) {
        StringBuilder open = new StringBuilder();
        StringBuilder close = new StringBuilder();
        for (int i = 0; i < deep; i++) {
            boolean not = (mix >> i & 1) != 0;
            open.append(not ? "not " : "( ");
            close.append(not ? "" : " )");
        }
        return new String[] {open.toString(), open + part + close};
    }

    private static void depth(String start, String part, String sentence) {
        Edges.sentence(sentence);
        for (int deep = 0; deep <= 6; deep++) {
            for (int mix = 0; mix < 1 << deep; mix++) {
                String[] text = wrapped(mix, deep, part);
                // the sixth one itself lies within five others
                int place = deep == 5 ? text[0].length() : wrapped(mix, 5, part)[0].length();
                int want = deep < 5 ? 0 : Edges.fault(5, start.length() + place);
                Edges.landed(start + text[1] + " ;", want);
            }
        }
        String four = wrapped(5, 4, part)[1];
        Edges.landed(start + four + " and " + four + " or " + four + " ;", 0);
        Edges.landed(start + "( " + four + " or " + part + " ) ;", Edges.fault(5, start.length() + 2 + wrapped(5, 4, part)[0].length()));
    }

    private static void depths() {
        depth(START + "law ", "pp ee ever", "no ITEM lies within 5 of not and ( )");
        depth(START + "law ", "some ee on 1", "no ITEM lies within 5 of not and ( )");
        depth(START + "law ", "together pp qq ee", "no ITEM lies within 5 of not and ( )");
        depth(START + "wish ss for 1 ", "ahead pp qq ee", "no ITEM lies within 5 of not and ( )");
        depth(START + "price ", "1", "no PART lies within 5 of not and ( )");
        depth(START + "price ", "before", "no PART lies within 5 of not and ( )");
        Edges.sentence("of the first token from the left that is wrong the least");
        String five = START + "law not ( not ( not ";
        for (String token : new String[] {"on", ")", ";", "1", "and", "days", "#", "abcdefghi"}) {
            Edges.landed(five + token, Edges.fault(1, five.length()));
        }
        Edges.landed(five + "xx", Edges.fault(2, five.length()));
        Edges.landed(five + "ee", Edges.fault(2, five.length()));
        Edges.landed(five + "pp", Edges.fault(5, five.length()));
        String price = START + "price ( ( ( ( ( ";
        for (String token : new String[] {"on", ")", ";", "+", "pp", "xx", "#", "10000"}) {
            Edges.landed(price + token, Edges.fault(1, price.length()));
        }
        Edges.landed(price + "told", Edges.fault(5, price.length()));
        Edges.landed("days 9 ; days 0", Edges.fault(4, 5));
        Edges.landed("days 2 ; person a tall 100 ; event a ;", Edges.fault(4, 23));
        Edges.landed("days 2 ; event a ; event a ; person b tall 100 ;", Edges.fault(3, 25));
    }

    private static void everyPrefix() {
        Edges.landed(WHOLE, 0);
        String[] tokens = WHOLE.trim().split(" ");
        String text = "";
        for (int i = 0; i < tokens.length; i++) {
            Edges.sentence("1 it can't stand there, the end being one at the text's length");
            boolean lineEnd = i > 0 && tokens[i - 1].equals(";");
            Edges.landed(text, lineEnd ? 0 : Edges.fault(1, text.length()));
            Edges.sentence("1 it is none");
            for (String none : new String[] {"#", "X", "123456", "abcdefghi", "."}) {
                Edges.landed(text + none + " ;", Edges.fault(1, text.length()));
            }
            text = text + tokens[i] + " ";
        }
        Edges.sentence("blanks between where one likes");
        Edges.landed(WHOLE.replace(" ", "\n"), 0);
        Edges.landed(WHOLE.replaceAll(" ?([;()<=+*-]) ?", "$1"), 0);
    }

    private static void signsOfE() {
        Edges.sentence("TEST: SUM, or SUM < SUM, or SUM = SUM; PART: a NUMBER, a fact, not PART, ( E )");
        String start = START + "price ";
        int at = start.length();
        for (String one : new String[] {"<", "="}) {
            for (String two : new String[] {"<", "="}) {
                Edges.landed(start + "1 " + one + " 2 " + two + " 3 ;", Edges.fault(1, at + 6));
                Edges.landed(start + "1 " + one + " ( 2 " + two + " 3 ) ;", 0);
                Edges.landed(start + "1 " + one + " 2 and 3 " + two + " 4 ;", 0);
            }
        }
        for (String sign : new String[] {"+", "-", "*", "<", "=", "and", "or"}) {
            Edges.landed(start + sign + " 1 ;", Edges.fault(1, at));
            Edges.landed(start + "1 " + sign + " ;", Edges.fault(1, at + 3 + sign.length()));
            Edges.landed(start + "1 " + sign + " " + sign + " 2 ;", Edges.fault(1, at + 3 + sign.length()));
            Edges.landed(start + "1 " + sign + " not 2 " + sign + " 3", Edges.fault(1,
                sign.equals("<") || sign.equals("=") ? at + 10 : at + 11 + 2 * sign.length()));
        }
        Edges.landed(start + "1 2 ;", Edges.fault(1, at + 2));
        Edges.landed(start + "1 not 2 ;", Edges.fault(1, at + 2));
        Edges.landed(start + "( ) ;", Edges.fault(1, at + 2));
        Edges.landed(start + "1 ) ;", Edges.fault(1, at + 2));
        Edges.landed(start + "( 1 + 2 ;", Edges.fault(1, at + 8));
        for (String other : new String[] {"pp", "ee", "ss", "xx", "some", "purse"}) {
            Edges.landed(start + other + " ;", Edges.fault(1, at));
        }
    }

    private static void signsOfFormulas() {
        Edges.sentence("FORMULA: TERM { or TERM }; TERM: ITEM { and ITEM }");
        String start = START + "law ";
        int at = start.length();
        String clause = "pp ee ever";
        for (String sign : new String[] {"and", "or"}) {
            Edges.landed(start + sign, Edges.fault(1, at));
            Edges.landed(start + clause + " " + sign + " ;", Edges.fault(1, at + 12 + sign.length()));
            Edges.landed(start + clause + " " + sign + " and " + clause, Edges.fault(1, at + 12 + sign.length()));
            Edges.landed(start + "not " + sign, Edges.fault(1, at + 4));
            Edges.landed(start + "( " + clause + " " + sign + " )", Edges.fault(1, at + 14 + sign.length()));
        }
        Edges.landed(start + "( )", Edges.fault(1, at + 2));
        Edges.landed(start + clause + " " + clause, Edges.fault(1, at + 11));
        Edges.landed(start + clause + " not " + clause, Edges.fault(1, at + 11));
        Edges.landed(start + "( " + clause + " ;", Edges.fault(1, at + 13));
        Edges.landed(start + clause + " ) ;", Edges.fault(1, at + 11));
        Edges.landed(start + "together pp qq ee on 1 ;", Edges.fault(1, at + 18));
        Edges.landed(start + "some some ee ever ;", Edges.fault(1, at + 5));
        Edges.landed(start + "pp qq ee ever ;", Edges.fault(2, at + 3));
        for (String sign : new String[] {"<", "=", "+", "-", "*"}) {
            Edges.landed(start + clause + " " + sign + " " + clause + " ;", Edges.fault(1, at + 11));
        }
    }

    private static void stays() {
        Edges.sentence("The TAPE is read as a LAND: 0, or its FAULT (all stays then)");
        AgreeTold told = Edges.in(START + "law pp ee ever ; wish ss for 5 pp ee on 1 ; price 7 ;");
        Edges.told(told, "ss pp ee on 1 ;");
        Edges.asks(told, "pp ee on 2");
        told.come(0, 0);
        told.promise(1, 1);
        told.mark(2, false);
        for (String bad : new String[] {"", "days 9 ;", "days 1", "days 1 ; event", "days 3 ; person x tall 5 ; event y ; wish", "event"}) {
            Texts.feed(told, bad);
            Edges.due("land of " + bad, told.land() != 0, true);
            Edges.counts(told, "behind " + bad, 2, 2, 2, 1, 1, 1, 1, 1, 1, 1, 3, 0);
            Edges.due("futures(0)", told.futures(0), 16);
            Edges.due("futures(1)", told.futures(1), 12);
            Edges.due("futures(2)", told.futures(2), 8);
            Edges.due("asked(0)", told.asked(0), 4);
            Edges.due("came", told.came(0, 1), 0);
            Edges.due("tall", told.tall(1), 2);
            Edges.due("purse", told.prophet(0, 1), 7);
            Edges.due("wish", told.wish(0, 2), 8);
        }
        Edges.told(told, "ss qq ff on 2 ;");
        Edges.due("the price stays", told.saying(1, 1), 7);
        Edges.due("the mark stays", told.mark(2, true), true);
        Edges.sentence("Without a FAULT: nothing is TOLD, nothing ASKED, day 1 is today, no promise, nothing can be undone, no MARK");
        told.come(1, 0);
        Edges.due("today", told.count(7), 2);
        Edges.due("another land", Texts.land(told, "days 1 ; person x tall 5 ; event y ; event z ; prophet t fool purse 4 ;"), 0);
        Edges.counts(told, "in another land", 1, 1, 2, 1, 0, 0, 0, 1, 0, 0, 0, 0);
        Edges.due("came", told.came(0, 1), Edges.NONE);
        Edges.due("purse", told.prophet(0, 1), 4);
        Edges.due("futures(2)", told.futures(2), 2);
        Edges.due("undo", told.undo(), false);
        Edges.due("mark", told.mark(2, true), false);
        Edges.due("why", told.why(), Edges.NONE);
        Edges.told(told, "t x y on 1 ;");
        Edges.due("Without price: 1", told.saying(0, 1), 1);
        Edges.due("the same names again", Texts.land(told, "days 1 ; person y tall 5 ; event x ;"), 0);
        Edges.due("no prophet", told.count(3), 0);
    }

    public static void main(String[] args) {
        newObject();
        days();
        fourPeople();
        fourEvents();
        futuresAtMost();
        fiveProphets();
        lawsWishesPrice();
        names();
        unknownNames();
        whenNumbers();
        depths();
        everyPrefix();
        signsOfE();
        signsOfFormulas();
        stays();
        Edges.end();
    }
}
