import java.util.NoSuchElementException;
import java.util.Random;

/** Arguments from the ends of int, in every kind of land: nothing but what the document names is thrown. */
public final class ExtremesTest {
    private static final int[] EXTREMES = {Integer.MIN_VALUE, Integer.MIN_VALUE + 1, -65536, -17, -2, -1, 0, 1, 2, 3, 4,
        5, 6, 7, 8, 12, 16, 20, 31, 32, 33, 60, 61, 63, 64, 65, 99, 100, 9999, 10000, 65535, Integer.MAX_VALUE - 1,
        Integer.MAX_VALUE};
    private static final String[] LANDS = {"", "days 6 ;", "days 1 ; event e ;", "days 2 ; person p tall 1 ;",
        "days 3 ; prophet s fool purse 1 ;", "days 2 ; person p tall 1 ; event e ; law p e never ; prophet s plain purse 1 ;",
        "days 6 ; person a tall 1 ; person b tall 99 ; person c tall 0 ; person d tall 4 ; event e ; prophet s grand purse 1 ;",
        "days 3 ; person a tall 10 ; person b tall 20 ; event e ; event f ; event g ; prophet s weather purse 9 ;"
            + " prophet t vague purse 1 ; wish s for 1 some e ever ; wish t for 2 a e on 1 ; price before * after ;",
        "days 5 ; person a tall 1 ; person b tall 1 ; person c tall 1 ; event e ; event f ; prophet s plain purse 0 ;"};
    private static int wrong = 0;

    private final Random random = new Random(7);
    private final AgreeTold told;

    private ExtremesTest(AgreeTold told) {
        this.told = told;
    }

    private int any() {
        return EXTREMES[random.nextInt(EXTREMES.length)];
    }

    private void one(int which) {
        switch (which) {
            case 0 -> told.tall(any());
            case 1 -> told.prophet(any(), any());
            case 2 -> told.futures(any());
            case 3 -> told.saying(any(), any());
            case 4 -> told.strike(any());
            case 5 -> told.come(any(), any());
            case 6 -> told.came(any(), any());
            case 7 -> told.promise(any(), any());
            case 8 -> told.word(any(), any(), any());
            case 9 -> told.holds(any(), any(), any());
            case 10 -> told.asked(any());
            case 11 -> told.making(any(), any(), any(), any());
            case 12 -> told.vague(any(), any(), any());
            case 13 -> told.span(any(), any(), any());
            case 14 -> told.knew(any(), any());
            case 15 -> told.wish(any(), any());
            case 16 -> told.auction(any());
            case 17 -> told.duel(any(), any(), any());
            case 18 -> told.fair(any(), any(), any());
            case 19 -> told.year(any(), any(), any());
            case 20 -> told.mark(any(), random.nextBoolean());
            case 21 -> told.count(any());
            case 22 -> told.undo();
            case 23 -> told.why();
            case 24 -> told.struck();
            case 25 -> told.kept();
            case 26 -> told.shorted();
            case 27 -> Texts.tell(told, "s a e on 1 ;");
            case 28 -> Texts.ask(told, "some e on 1 ;");
            case 29 -> told.feed(random.nextLong(), random.nextLong(), random.nextLong());
            case 30 -> told.widest(random.nextBoolean());
            default -> firstThrowsItsOwn();
        }
    }

    private void firstThrowsItsOwn() {
        int person = any();
        int day = any();
        int event = any();
        boolean known = told.holds(person, day, event) != AgreeTold.NONE;
        boolean thrown = false;
        try {
            told.first(person, day, event);
        } catch (NoSuchElementException due) {
            thrown = true;
        }
        if (known == thrown) {
            wrong++;
            System.out.println("first(" + person + ", " + day + ", " + event + ") threw: " + thrown);
        }
    }

    public static void main(String[] args) {
        for (String land : LANDS) {
            AgreeTold told = new AgreeTold();
            if (!land.isEmpty() && Texts.land(told, land) != 0) {
                wrong++;
                System.out.println("a fault in " + land);
            }
            ExtremesTest test = new ExtremesTest(told);
            for (int i = 0; i < 4000; i++) {
                int which = test.random.nextInt(32);
                try {
                    test.one(which);
                } catch (RuntimeException thrown) {
                    wrong++;
                    System.out.println("call " + which + " threw " + thrown + " in " + land);
                }
            }
        }
        if (wrong > 0) {
            System.exit(1);
        }
        System.out.println("nothing else is thrown");
    }
}
