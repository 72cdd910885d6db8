/** Counts the answers that are not as due, and puts texts on the tape of a guard. */
final class Due {
    private static int wrong = 0;
    private static int asked = 0;
    private static String where = "";

    private Due() {
    }

    static void is(String call, long got, long want) {
        asked++;
        if (got != want) {
            wrong++;
            System.out.println(where + call + " answered " + got + ", due is " + want);
        }
    }

    static void is(String call, boolean got, boolean want) {
        is(call, got ? 1 : 0, want ? 1 : 0);
    }

    /** What the answers from here on are held against, told with each that is not as due. */
    static void from(String place) {
        where = place + ": ";
    }

    static int asked() {
        return asked;
    }

    /** Ends the test, with exit code 1 if an answer was not as due. */
    static void close() {
        System.out.println(asked + " answers, " + wrong + " of them not as due");
        if (wrong != 0) {
            System.exit(1);
        }
    }

    /** The tape is just this text then; signs stand for their bytes. */
    static void tape(RockingGuard g, String text) {
        g.end(0);
        int[] words = new int[5];
        for (int from = 0; from < text.length(); from += 20) {
            for (int i = 0; i < 5; i++) {
                words[i] = 0;
                for (int j = 0; j < 4; j++) {
                    int at = from + i * 4 + j;
                    words[i] = words[i] << 8 | (at < text.length() ? text.charAt(at) & 255 : 0);
                }
            }
            g.feed(words[0], words[1], words[2], words[3], words[4]);
        }
        is("end(" + text.length() + ")", g.end(text.length()), text.length());
    }

    static int text(RockingGuard g, String text) {
        tape(g, text);
        return g.text();
    }

    /** A text that is read and rules. */
    static void rule(RockingGuard g, String text) {
        int number = text(g, text);
        is("a text as it should be: " + text, g.fault(0), 0);
        is("by(" + number + ")", number != RockingGuard.NONE && g.by(number), true);
    }

    /** A text that has a fault at a place (or 0, NONE without one), read by a new guard. */
    static void fault(String text, int fault, int place) {
        RockingGuard g = new RockingGuard();
        is("text() of '" + text + "'", text(g, text), fault == 0 ? 0 : -1);
        is("fault(0) of '" + text + "'", g.fault(0), fault);
        is("fault(1) of '" + text + "'", g.fault(1), place);
    }
}
