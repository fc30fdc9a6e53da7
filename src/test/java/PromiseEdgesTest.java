/** The edges of promised tall men: promises 29 and 30. */
public final class PromiseEdgesTest {
    private PromiseEdgesTest() {
    }

    private static String land(int days, int... talls) {
        StringBuilder text = new StringBuilder("days " + days + " ; event e ; ");
        for (int i = 0; i < talls.length; i++) {
            text.append("person p").append((char) ('a' + i)).append(" tall ").append(talls[i]).append(" ; ");
        }
        return text.toString();
    }

    /** Promises go in pairs: to whom, how tall. */
    private static AgreeTold promised(String land, int... promises) {
        AgreeTold told = Edges.in(land);
        for (int i = 0; i + 1 < promises.length; i += 2) {
            Edges.due("promise", told.promise(promises[i], promises[i + 1]), i / 2 + 1);
        }
        return told;
    }

    private static void both(AgreeTold told, String when, int kept, int shorted) {
        Edges.due("kept() " + when, told.kept(), kept);
        Edges.due("shorted() " + when, told.shorted(), shorted);
    }

    private static void none() {
        Edges.sentence("SHORT; NONE: there is none");
        both(new AgreeTold(), "of a new object", 0, Edges.NONE);
        both(Edges.in(land(6)), "without people", 0, Edges.NONE);
        both(Edges.in(land(6, 99, 99)), "without promises", 0, Edges.NONE);
    }

    private static void another() {
        Edges.sentence("to be kept by another PERSON");
        both(promised(land(1, 50), 0, 0), "alone", 0, Edges.NONE);
        both(promised(land(1, 50, 40), 0, 45), "by himself", 0, Edges.NONE);
        both(promised(land(1, 50, 40), 1, 45), "by the other", 1, Edges.NONE);
        both(promised(land(1, 50, 40), 0, 40), "by the other", 1, Edges.NONE);
        both(promised(land(1, 50, 50), 0, 50, 1, 50), "by each other", 2, Edges.NONE);
        both(promised(land(2, 50, 50), 0, 50, 0, 50, 0, 50), "three to one of two", 2, Edges.NONE);
    }

    private static void soTall() {
        Edges.sentence("by another PERSON who is so tall (so tall at least)");
        both(promised(land(1, 50, 60), 0, 59), "below", 1, Edges.NONE);
        both(promised(land(1, 50, 60), 0, 60), "just so tall", 1, Edges.NONE);
        both(promised(land(1, 50, 60), 0, 61), "above", 0, 61);
        both(promised(land(6, 0, 0), 0, 0), "of 0", 1, Edges.NONE);
        both(promised(land(6, 0, 99), 0, 99, 1, 0), "of 99", 2, Edges.NONE);
        both(promised(land(6, 98, 98), 0, 99), "of 99, nobody", 0, 99);
    }

    private static void oneADay() {
        Edges.sentence("each on one of the days that are left; one keeps one a day");
        for (int days = 1; days <= 6; days++) {
            AgreeTold told = Edges.in(land(days, 10, 20));
            for (int i = 1; i <= 8; i++) {
                told.promise(0, 15);
                both(told, "with " + i + " on " + days + " days", Math.min(i, days), i > days ? 15 : Edges.NONE);
            }
        }
        both(promised(land(1, 10, 20, 30), 0, 20, 0, 30), "two keepers", 2, Edges.NONE);
        both(promised(land(1, 10, 20, 30), 0, 30, 0, 20), "two keepers", 2, Edges.NONE);
        both(promised(land(1, 10, 20, 30), 1, 5, 0, 30), "the short one keeps the short promise", 2, Edges.NONE);
        both(promised(land(1, 10, 20, 30), 0, 5, 1, 30, 2, 15), "in a ring", 2, Edges.NONE);
        both(promised(land(1, 10, 20, 30), 2, 15, 2, 15), "one keeper for two", 1, Edges.NONE);
        both(promised(land(2, 10, 20, 30), 2, 15, 2, 15), "one keeper on two days", 2, Edges.NONE);
        both(promised(land(6, 50, 60), 0, 55, 1, 55), "one that can be kept, one that can't", 1, Edges.NONE);
        both(promised(land(6, 50, 60), 1, 55, 1, 55, 0, 55, 0, 55, 1, 50), "three that can be kept, two that can't", 3, Edges.NONE);
    }

    private static void twenty() {
        Edges.sentence("20 at most: KEPT the most that can be");
        for (int days = 1; days <= 6; days++) {
            AgreeTold told = Edges.in(land(days, 50, 50, 50, 50));
            for (int i = 0; i < 20; i++) {
                told.promise(i % 4, 50);
            }
            both(told, "20 on " + days + " days", Math.min(20, 4 * days), days < 5 ? 50 : Edges.NONE);
        }
        AgreeTold zero = Edges.in(land(4, 50, 50, 50, 50));
        for (int i = 0; i < 17; i++) {
            zero.promise(i % 4, 0);
            both(zero, "of tallness 0", Math.min(i + 1, 16), i >= 16 ? 0 : Edges.NONE);
        }
    }

    private static void shorts() {
        Edges.sentence("SHORT: the greatest tallness a promise asks for, of which (and more) more are promised than there are so tall times days");
        AgreeTold told = promised(land(1, 10, 20, 30), 0, 20, 0, 30);
        both(told, "as many as there are", 2, Edges.NONE);
        told.promise(0, 5);
        both(told, "three of three, but he is one himself", 2, Edges.NONE);
        told.promise(1, 10);
        both(told, "four of three", 3, 5);
        told.promise(1, 25);
        both(told, "two of 25 and more, one so tall", 3, 25);
        told.promise(1, 22);
        both(told, "three of 22 and more, but 25 is greater", 3, 25);
        told.promise(0, 31);
        both(told, "one of 31, nobody", 3, 31);
        told.undo();
        both(told, "undone", 3, 25);
        both(promised(land(2, 10, 20), 0, 20, 0, 20, 0, 15), "20: two of two; 15: three of two", 2, 15);
    }

    private static void daysLeft() {
        Edges.sentence("the days that are left (today too)");
        AgreeTold told = Edges.in(land(2, 10, 20));
        for (int i = 0; i < 3; i++) {
            told.promise(0, 20);
        }
        both(told, "on day 1", 2, 20);
        told.come(1, 0);
        both(told, "on day 1, when he has an EVENT", 2, 20);
        told.come(0, 0);
        both(told, "on day 2", 1, 20);
        told.come(0, 0);
        both(told, "on day 2 still", 1, 20);
        told.come(1, 0);
        both(told, "when it is over", 0, 20);
        told.undo();
        both(told, "on day 2 again", 1, 20);
        AgreeTold over = Edges.in(land(1, 10, 20));
        over.come(0, 0);
        over.come(1, 0);
        Edges.due("promised behind the last day", over.promise(0, 0), 1);
        both(over, "behind the last day", 0, 0);
    }

    public static void main(String[] args) {
        none();
        another();
        soTall();
        oneADay();
        twenty();
        shorts();
        daysLeft();
        Edges.end();
    }
}
