import java.util.NoSuchElementException;

/** What the edge tests share: each wrong answer is printed with the sentence of the document that it breaks. */
final class Edges {
    static final int NONE = AgreeTold.NONE;
    /** What firstOf answers where first throws its NoSuchElementException. */
    static final int THROWN = -99;
    private static int wrong = 0;
    private static int looked = 0;
    private static String sentence = "";

    private Edges() {
    }

    static void sentence(String text) {
        sentence = text;
    }

    static void due(String call, long got, long want) {
        looked++;
        if (got != want) {
            wrong++;
            System.out.println("\"" + sentence + "\": " + call + " answered " + got + ", due is " + want);
        }
    }

    static void due(String call, boolean got, boolean want) {
        due(call, got ? 1 : 0, want ? 1 : 0);
    }

    static int fault(int kind, int place) {
        return kind + 16 * place;
    }

    static AgreeTold in(String land) {
        AgreeTold told = new AgreeTold();
        due("land of " + land, Texts.land(told, land), 0);
        return told;
    }

    static void landed(String land, int want) {
        due("land of " + land, Texts.land(new AgreeTold(), land), want);
    }

    static void told(AgreeTold told, String... sayings) {
        for (String saying : sayings) {
            due("tell of " + saying, Texts.tell(told, saying), 0);
        }
    }

    static void asks(AgreeTold told, String formula) {
        due("ask of " + formula, Texts.ask(told, formula + " ;"), 0);
    }

    static int firstOf(AgreeTold told, int person, int day, int event) {
        try {
            return told.first(person, day, event);
        } catch (NoSuchElementException thrown) {
            return THROWN;
        }
    }

    static void counts(AgreeTold told, String when, int... want) {
        for (int i = 0; i < want.length; i++) {
            due("count(" + i + ") " + when, told.count(i), want[i]);
        }
    }

    static void end() {
        if (wrong > 0) {
            System.exit(1);
        }
        System.out.println(looked + " answers at the edges are as due");
    }
}
