import java.lang.management.ManagementFactory;

/** 512 calls on the largest lands, of the dearest kinds, must stay far below the room that a run has. */
public final class RoomTest {
    /** 7.3 million elements, of which 8 bytes each would be 58 million; no run may come near to it. */
    private static final long MOST_BYTES = 16_000_000L;
    private static final String LARGEST = "days 5 ; person a tall 1 ; person b tall 1 ; person c tall 1 ; event e ;"
        + " event f ; prophet s plain purse 0 ; prophet v vague purse 0 ; law some e ever ;"
        + " wish s for 1 a e on 1 ; wish s for 2 a f on 1 ; wish v for 3 b e on 1 ;";
    private static int wrong = 0;

    private RoomTest() {
    }

    private static long bytes() {
        com.sun.management.ThreadMXBean bean = (com.sun.management.ThreadMXBean) ManagementFactory.getThreadMXBean();
        return bean.getThreadAllocatedBytes(Thread.currentThread().getId());
    }

    private static void spent(String what, long before) {
        long spent = bytes() - before;
        if (spent > MOST_BYTES) {
            wrong++;
            System.out.println(what + " made " + spent + " bytes");
        }
    }

    /** Every fifth call tells, asks or undoes on the largest land. */
    private static void tellings() {
        long before = bytes();
        AgreeTold told = new AgreeTold();
        Texts.land(told, LARGEST);
        for (int i = 0; i < 90; i++) {
            Texts.tell(told, "s a e ever ;");
            Texts.ask(told, "a e on 1 ;");
            told.undo();
        }
        spent("telling", before);
    }

    private static void lands() {
        long before = bytes();
        AgreeTold told = new AgreeTold();
        for (int i = 0; i < 50; i++) {
            Texts.land(told, LARGEST);
        }
        spent("lands", before);
    }

    private static void faults() {
        long before = bytes();
        AgreeTold told = new AgreeTold();
        for (int i = 0; i < 512; i++) {
            told.land();
        }
        spent("faults", before);
    }

    private static void looks() {
        long before = bytes();
        AgreeTold told = new AgreeTold();
        Texts.land(told, LARGEST);
        for (int i = 0; i < 12; i++) {
            Texts.tell(told, "s a e ever ;");
        }
        Texts.ask(told, "a e on 1 and a f on 1 ;");
        for (int i = 0; i < 50; i++) {
            told.why();
            told.struck();
            told.making(0, 1, 0, -1);
            told.year(i, 60, 1);
            told.auction(0);
            told.duel(0, 1, 0);
            told.mark(i % 4, i % 3 == 0);
        }
        spent("looks", before);
    }

    private static void objects() {
        long before = bytes();
        for (int i = 0; i < 100; i++) {
            new AgreeTold().futures(2);
        }
        spent("a hundred objects", before);
    }

    public static void main(String[] args) {
        tellings();
        lands();
        faults();
        looks();
        objects();
        if (wrong > 0) {
            System.exit(1);
        }
        System.out.println("the room is wide enough");
    }
}
