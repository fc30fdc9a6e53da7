/** Packs texts into the calls of feed. */
final class Texts {
    private Texts() {
    }

    static long pack(String text, int from) {
        long packed = 0L;
        for (int i = 0; i < 8; i++) {
            int at = from + i;
            packed = packed << 8 | (at < text.length() ? text.charAt(at) & 255 : 0);
        }
        return packed;
    }

    /** Feeds a text as it is; signs 0 fill up the last call, and are left out by it. */
    static int feed(AgreeTold told, String text) {
        int length = told.count(11);
        for (int from = 0; from < text.length(); from += 24) {
            length = told.feed(pack(text, from), pack(text, from + 8), pack(text, from + 16));
        }
        return length;
    }

    static int land(AgreeTold told, String text) {
        feed(told, text);
        return told.land();
    }

    static int tell(AgreeTold told, String text) {
        feed(told, text);
        return told.tell();
    }

    static int ask(AgreeTold told, String text) {
        feed(told, text);
        return told.ask();
    }
}
