/** Promises 1 to 24, sentence by sentence. */
public final class SaidPromisesTest {
    private static final int LEAST = Scene.LEAST;
    private static final int MOST = Scene.MOST;

    public static void main(String[] args) {
        String[] places = new String[24];
        for (int i = 0; i < places.length; i++) places[i] = "" + (i + 1);
        Said.runAll(SaidPromisesTest.class, places);
    }

    static void promise01Empty() {
        Said.at("1", "An empty terrace;");
        RockingGuard g = new RockingGuard();
        int[] about = {0, 0, 0, -1, 0, 0, 0, 0, 0, 0};
        int[] is = {0, 0, 3, 9, 151, 0, 0};
        for (int i = 0; i < about.length; i++) Due.is("about(" + i + ")", g.about(i), about[i]);
        for (int i = 0; i < is.length; i++) Due.is("is(" + i + ")", g.is(i), is[i]);
        Due.is("BOOK", g.book(-1, 0), 0);
        Due.is("undo()", g.undo(), -1);
        Due.is("no HORSE", g.ofHorse(0, 0), -2);
        Due.is("no boy", g.ofBoy(0, 0), -2);
        Due.is("another object is another terrace", g.horse(2, 0) + new RockingGuard().about(0), 0);
    }

    static void promise01Image() {
        Said.at("1", "THE IMAGE is this.");
        RockingGuard g = Scene.ridden(1);
        Due.rule(g, "seen 5;");
        g.minute(4);
        g.heard(0, 1);
        g.watch(0, 1, 9);
        g.haul(1);
        g.counted(1, 1);
        Due.is("back()", g.back(), 0);
        int[] about = {0, 0, 0, -1, 0, 0, 0, 0, 0, 0};
        int[] is = {0, 0, 3, 9, 151, 0, 0};
        for (int i = 0; i < about.length; i++) Due.is("about(" + i + ")", g.about(i), about[i]);
        for (int i = 0; i < is.length; i++) Due.is("is(" + i + ")", g.is(i), is[i]);
        Due.is("the first HORSE again", g.horse(5, 4), 0);
        Due.is("WEAR", g.ofHorse(0, 2), 0);
        Due.is("the first boy again", g.boy(3), 0);
        Due.is("TIRED", g.ofBoy(0, 1), 0);
        Due.is("on none", g.ofBoy(0, 2), -1);
    }

    static void promise02Number() {
        Said.at("2", "A HORSE: its number.");
        RockingGuard g = new RockingGuard();
        for (int i = 0; i < 8; i++) Due.is("horse", g.horse(9 - i, 0), i);
        for (int i = 0; i < 8; i++) Due.is("BEAT", g.ofHorse(i, 0), 9 - i);
    }

    static void promise02Others() {
        Said.at("2", "NONE for others, or if there are 8.");
        RockingGuard g = new RockingGuard();
        int[][] others = {{0, 0}, {-1, 0}, {10, 0}, {LEAST, 0}, {MOST, 0}, {5, -1}, {5, 5}, {5, LEAST}, {5, MOST}, {0, -1}, {-3, -5}};
        for (int[] o : others) Due.is("horse(" + o[0] + ", " + o[1] + ")", g.horse(o[0], o[1]), -1);
        Due.is("none is told", g.about(0), 0);
        for (int i = 0; i < 8; i++) g.horse(3, 1);
        Due.is("a ninth", g.horse(3, 1), -1);
        Due.is("eight", g.about(0), 8);
        Due.is("the eighth is as told", g.ofHorse(7, 1), 1);
    }

    static void promise03Number() {
        Said.at("3", "A boy: his number.");
        RockingGuard g = new RockingGuard();
        for (int i = 0; i < 6; i++) Due.is("boy", g.boy(9 - i), i);
        for (int i = 0; i < 6; i++) Due.is("SIZE", g.ofBoy(i, 0), 9 - i);
    }

    static void promise03Others() {
        Said.at("3", "NONE for others, or if there are 6.");
        RockingGuard g = new RockingGuard();
        for (int size : new int[] {0, -1, 10, LEAST, MOST}) Due.is("boy(" + size + ")", g.boy(size), -1);
        Due.is("none is told", g.about(1), 0);
        for (int i = 0; i < 6; i++) g.boy(3);
        Due.is("a seventh", g.boy(4), -1);
        Due.is("six", g.about(1), 6);
        Due.is("the sixth is as told", g.ofBoy(5, 0), 3);
    }

    static void promise04() {
        Said.at("4", "LIMIT: true. False for others.");
        RockingGuard g = new RockingGuard();
        for (int n = 1; n <= 8; n++) {
            Due.is("limit(" + n + ")", g.limit(n), true);
            Due.is("LIMIT", g.is(2), n);
        }
        for (int n : new int[] {0, -1, 9, LEAST, MOST}) {
            Due.is("limit(" + n + ")", g.limit(n), false);
            Due.is("LIMIT is as it was", g.is(2), 8);
        }
    }

    static void promise05Twenty() {
        Said.at("5", "Twenty bytes come behind the tape, the highest of a first: how many it has.");
        RockingGuard g = new RockingGuard();
        // "horse 9 shift 8;boy " and "7;" behind it.
        Due.is("feed", g.feed(0x686f7273, 0x65203920, 0x73686966, 0x7420383b, 0x626f7920), 20);
        Due.is("feed", g.feed(0x373b2020, 0x20202020, 0x20202020, 0x20202020, 0x20202020), 40);
        Due.is("text()", g.text(), 0);
        Due.is("played(0)", g.played(0), -1);
        Due.is("BEAT", g.ofHorse(0, 0), 9);
        Due.is("SHIFT", g.ofHorse(0, 1), 8);
        Due.is("SIZE", g.ofBoy(0, 0), 7);
        // A highest byte above 127: the number is below 0.
        g.feed(0xff202020, 0, 0, 0, 0);
        g.end(4);
        g.text();
        Due.is("byte 255 is no blank", g.fault(1), 0);
        g.feed(0x0a0a0aff, 0, 0, 0, 0);
        g.end(4);
        g.text();
        Due.is("nor as the lowest", g.fault(1), 3);
    }

    static void promise05Full() {
        Said.at("5", "NONE, and none come, if there would be more than 300.");
        RockingGuard g = new RockingGuard();
        for (int i = 1; i <= 15; i++) Due.is("feed", g.feed(0x20202020, 0x20202020, 0x20202020, 0x20202020, 0x20202020), 20 * i);
        Due.is("320", g.feed(1, 1, 1, 1, 1), -1);
        Due.is("300 yet", g.about(9), 300);
        g.end(281);
        Due.is("301", g.feed(1, 1, 1, 1, 1), -1);
        Due.is("281 yet", g.about(9), 281);
        Due.is("end(300)", g.end(300), -1);
        g.end(280);
        Due.is("300", g.feed(0x20202020, 0x20202020, 0x20202020, 0x20202020, 0x20202020), 300);
        Due.is("blanks alone", g.text(), 0);
        Due.is("its FAULT", g.fault(0), 0);
    }

    static void promise06First() {
        Said.at("6", "The tape has its first n bytes alone: n.");
        RockingGuard g = new RockingGuard();
        Due.is("an empty tape", g.end(0), 0);
        // "boy 4;boy 5;boy 6;xx"
        g.feed(0x626f7920, 0x343b626f, 0x7920353b, 0x626f7920, 0x363b7878);
        Due.is("end(20)", g.end(20), 20);
        Due.is("end(12)", g.end(12), 12);
        Due.is("twelve", g.about(9), 12);
        g.text();
        g.played(0);
        Due.is("two boys", g.about(1), 2);
        g.feed(0x626f7920, 0, 0, 0, 0);
        Due.is("end(4)", g.end(4), 4);
        g.feed(0x393b2020, 0x20202020, 0x20202020, 0x20202020, 0x20202020);
        Due.is("what comes then is behind these", g.text(), 1);
        Due.is("end(0)", g.end(0), 0);
    }

    static void promise06Others() {
        Said.at("6", "NONE, and nothing is done, if it has not so many, or n is below 0.");
        RockingGuard g = new RockingGuard();
        Due.is("end(1) of none", g.end(1), -1);
        Due.is("end(-1) of none", g.end(-1), -1);
        g.feed(0, 0, 0, 0, 0);
        for (int n : new int[] {21, -1, 300, 301, LEAST, MOST}) {
            Due.is("end(" + n + ")", g.end(n), -1);
            Due.is("twenty yet", g.about(9), 20);
        }
    }

    static void promise07Text() {
        Said.at("7", "The tape (empty then) is a TEXT: its number.");
        RockingGuard g = new RockingGuard();
        for (int i = 0; i < 4; i++) {
            Due.tape(g, "seen " + i + ";");
            Due.is("text()", g.text(), i);
            Due.is("empty then", g.about(9), 0);
        }
        RockingGuard none = new RockingGuard();
        Due.is("an empty tape", none.text(), 0);
        Due.is("one TEXT", none.about(2), 1);
    }

    static void promise07Fault() {
        Said.at("7", "NONE: it has a FAULT;");
        RockingGuard g = new RockingGuard();
        Due.is("text()", Due.text(g, "seen 1"), -1);
        Due.is("no TEXT", g.about(2), 0);
        Due.is("its FAULT", g.fault(0), 1);
        Due.is("the tape is empty: just what is said not to be so stays", g.about(9), 0);
        Due.is("the next is the first", Due.text(g, "seen 1;"), 0);
    }

    static void promise07FaultLeavesNothing() {
        Said.at("7", "NONE: it has a FAULT;");
        RockingGuard g = new RockingGuard();
        for (int i = 0; i < 3; i++) {
            Due.is("a FAULT at its end", Due.text(g, "boy 1;boy 2;wears 1;tires 2;seen -5" + "+1".repeat(120) + ";x"), -1);
        }
        Due.is("a FAULT behind a minus", Due.text(g, "seen -5 x"), -1);
        Due.rule(g, "seen 5;");
        Due.is("seen", g.is(5), 5);
        g.horse(1, 0);
        g.boy(5);
        g.mount(0, 0);
        g.minute(1);
        Due.is("TIRED without that law", g.ofBoy(0, 1), 1);
        Due.is("nothing is PLAYED", g.played(0), -1);
        Due.is("one boy", g.about(1), 1);
        Due.is("one more FAULT", Due.text(g, "seen 9;boy 7;x"), -1);
        Due.is("THE TEXT is as it was", g.is(5), 5);
        Due.rule(g, "boy 9;seen 1" + "+1".repeat(80) + ";");
        Due.is("seen", g.is(5), 81);
        Due.is("its CLAUSES alone", g.played(1), -1);
        Due.is("one boy more", g.about(1), 2);
        Due.is("SIZE", g.ofBoy(1, 0), 9);
    }

    static void promise07Four() {
        Said.at("7", "or (the tape stays) there are 4.");
        RockingGuard g = new RockingGuard();
        for (int i = 0; i < 4; i++) g.text();
        Due.is("a fifth", Due.text(g, "seen 1;"), -1);
        Due.is("the tape stays", g.about(9), 7);
        Due.is("four", g.about(2), 4);
        Due.tape(g, "x");
        Due.is("one with a FAULT", g.text(), -1);
        Due.is("the tape stays", g.about(9), 1);
        Due.is("it isn't read", g.fault(0), 0);
        g.back();
        Due.is("BACK to none: it is read", g.text(), -1);
        Due.is("its FAULT", g.fault(0), 1);
    }

    static void promise08() {
        Said.at("8", "Of the latest text that was read: 0 its FAULT (0 without), 1 its place (NONE without).");
        RockingGuard g = new RockingGuard();
        Due.text(g, "boy 5;limit 9;");
        Due.is("its FAULT", g.fault(0), 2);
        Due.is("its place", g.fault(1), 12);
        Due.text(g, "x");
        Due.is("the latest: its FAULT", g.fault(0), 1);
        Due.is("place 0", g.fault(1), 0);
        Due.text(g, "boy 5;");
        Due.is("without", g.fault(0), 0);
        Due.is("without", g.fault(1), -1);
        Due.tape(g, "x");
        Due.is("a tape that isn't read", g.fault(0), 0);
    }

    static void promise08Others() {
        Said.at("8", "NONE for others, and ahead of any.");
        RockingGuard g = new RockingGuard();
        for (int what : new int[] {0, 1, 2, -1, LEAST, MOST}) Due.is("ahead of any: fault(" + what + ")", g.fault(what), -1);
        Due.text(g, "x");
        for (int what : new int[] {2, -1, LEAST, MOST}) Due.is("fault(" + what + ")", g.fault(what), -1);
    }

    static void promise09() {
        Said.at("9", "THE TEXT (NONE: none): true.");
        RockingGuard g = new RockingGuard();
        Due.is("by(NONE), though none rules", g.by(-1), true);
        Due.text(g, "seen 7;");
        Due.text(g, "seen 9;");
        Due.is("by(1)", g.by(1), true);
        Due.is("seen", g.is(5), 9);
        Due.is("by(1) once more", g.by(1), true);
        Due.is("by(0)", g.by(0), true);
        Due.is("seen", g.is(5), 7);
        Due.is("by(NONE)", g.by(-1), true);
        Due.is("none", g.about(3), -1);
        Due.is("seen without", g.is(5), 0);
    }

    static void promise09Others() {
        Said.at("9", "False for others.");
        RockingGuard g = new RockingGuard();
        Due.is("by(0) of none", g.by(0), false);
        Due.text(g, "seen 7;");
        g.by(0);
        for (int text : new int[] {1, 3, 4, -2, LEAST, MOST}) {
            Due.is("by(" + text + ")", g.by(text), false);
            Due.is("THE TEXT is as it was", g.about(3), 0);
        }
        Due.text(g, "seen 8;");
        Due.is("by(1)", g.by(1), true);
        g.back();
        Due.is("none that BACK takes away", g.by(0), false);
    }

    static void promise10() {
        Said.at("10", "MOUNTS: true.");
        RockingGuard g = Scene.horses(2, 2);
        g.boy(5);
        g.boy(5);
        Due.is("mount(1, 0)", g.mount(1, 0), true);
        Due.is("who is on 0", g.ofHorse(0, 3), 1);
        Due.is("mount(0, 1)", g.mount(0, 1), true);
        Due.is("who is on 1", g.ofHorse(1, 3), 0);
    }

    static void promise10Others() {
        Said.at("10", "False, if it can't be, and for others.");
        RockingGuard g = Scene.ridden(2);
        g.boy(5);
        g.horse(2, 0);
        int[][] others = {{0, 0}, {0, 1}, {1, 0}, {2, 1}, {1, 2}, {-1, 1}, {1, -1}, {6, 1}, {1, 8}, {LEAST, 1}, {1, LEAST}, {MOST, 1}, {1, MOST}};
        for (int[] o : others) Due.is("mount(" + o[0] + ", " + o[1] + ")", g.mount(o[0], o[1]), false);
        Due.is("no STEP but the first", g.about(4), 1);
        Due.is("boy 0", g.ofBoy(0, 2), 0);
        Due.is("boy 1", g.ofBoy(1, 2), -1);
        RockingGuard weary = Scene.tired(9);
        Due.is("TIRED 9", weary.mount(0, 0), false);
    }

    static void promise11() {
        Said.at("11", "OFF: the HORSE.");
        RockingGuard g = Scene.ridden(2, 3);
        Due.is("off(1)", g.off(1), 1);
        Due.is("off(0)", g.off(0), 0);
        Due.is("none is on", g.unmanned(), 0);
        Due.is("four STEPS", g.about(4), 4);
    }

    static void promise11Others() {
        Said.at("11", "NONE, if it can't be, and for others.");
        RockingGuard g = Scene.ridden(2);
        g.boy(5);
        for (int boy : new int[] {1, 2, 5, 6, -1, LEAST, MOST}) Due.is("off(" + boy + ")", g.off(boy), -1);
        Due.is("no STEP but the first", g.about(4), 1);
        Due.is("he is on it yet", g.ofBoy(0, 2), 0);
    }

    static void promise12() {
        Said.at("12", "OILED: OIL yet.");
        RockingGuard g = Scene.worn(98);
        Due.is("oil(0)", g.oil(0), 8);
        Due.is("WEAR", g.ofHorse(0, 2), 0);
        Due.is("WEAR 0 can be oiled, too", g.oil(0), 7);
    }

    static void promise12Others() {
        Said.at("12", "NONE, if it can't be, and for others.");
        RockingGuard g = Scene.horses(2);
        for (int horse : new int[] {1, 7, 8, -1, LEAST, MOST}) Due.is("oil(" + horse + ")", g.oil(horse), -1);
        Due.is("OIL", g.is(3), 9);
        Due.is("no STEP", g.about(4), 0);
        for (int i = 0; i < 9; i++) g.oil(0);
        Due.is("no OIL", g.oil(0), -1);
        Due.is("nine STEPS", g.about(4), 9);
    }

    static void promise13() {
        Said.at("13", "NAILED: true.");
        RockingGuard g = Scene.horses(9, 2);
        Due.is("nail(0, 8)", g.nail(0, 8), true);
        Due.is("SHIFT", g.ofHorse(0, 1), 8);
        Due.is("nail(1, 1)", g.nail(1, 1), true);
        Due.is("SHIFT", g.ofHorse(1, 1), 1);
        Due.is("nail(1, 0)", g.nail(1, 0), true);
        Due.is("SHIFT", g.ofHorse(1, 1), 0);
    }

    static void promise13Others() {
        Said.at("13", "False for others, and if it is so.");
        RockingGuard g = Scene.horses(3, 1);
        int[][] others = {{0, 0}, {0, 3}, {0, 8}, {0, -1}, {1, 1}, {2, 0}, {2, 1}, {8, 1}, {-1, 1}, {LEAST, 1}, {0, LEAST}, {MOST, 1}, {0, MOST}};
        for (int[] o : others) Due.is("nail(" + o[0] + ", " + o[1] + ")", g.nail(o[0], o[1]), false);
        Due.is("no STEP", g.about(4), 0);
        g.nail(0, 2);
        Due.is("it is so", g.nail(0, 2), false);
        Due.is("one STEP", g.about(4), 1);
    }

    static void promise14() {
        Said.at("14", "MINUTES pass (1 .. 60): how many slides there were in them.");
        RockingGuard g = Scene.ridden(1, 3);
        Due.rule(g, "wears 0;tires 0;");
        Due.is("LIMIT 8: no slides", g.minute(1), 0);
        g.limit(2);
        Due.is("3, 6, .. 60", g.minute(60), 20);
        Due.is("MINUTE", g.is(0), 61);
        g.limit(1);
        Due.is("each of 60", g.minute(60), 60);
        Due.is("MINUTE", g.is(0), 121);
    }

    static void promise14Others() {
        Said.at("14", "NONE for others, or beyond 9999 (nothing is done then).");
        RockingGuard g = Scene.ridden(1);
        for (int n : new int[] {0, -1, 61, LEAST, MOST}) Due.is("minute(" + n + ")", g.minute(n), -1);
        Due.is("MINUTE", g.is(0), 0);
        Due.is("WEAR", g.ofHorse(0, 2), 0);
        Due.is("no STEP but the first", g.about(4), 1);
        Scene.pass(g, 9945);
        Due.is("9945 and 55", g.minute(55), -1);
        Due.is("nothing is done", g.is(0), 9945);
        Due.is("9945 and 54", g.minute(54), 0);
        Due.is("9999", g.is(0), 9999);
        for (int n : new int[] {1, 60, MOST}) Due.is("minute(" + n + ") at 9999", g.minute(n), -1);
    }

    static void promise15() {
        Said.at("15", "PLAYED by a TEXT: NONE: all is done; else the number of the CLAUSE that can't be.");
        RockingGuard g = new RockingGuard();
        Due.text(g, "horse 2 shift 0;boy 5;mount 0 on 0;");
        Due.is("all is done", g.played(0), -1);
        Due.is("he is on it", g.ofHorse(0, 3), 0);
        Due.is("once more: he is on one already", g.played(0), 2);
        Due.is("what was done stays", g.about(0), 2);
        Due.text(g, "");
        Due.is("nothing", g.played(1), -1);
    }

    static void promise15Others() {
        Said.at("15", "-2 for others.");
        RockingGuard g = new RockingGuard();
        Due.is("no TEXTS", g.played(0), -2);
        Due.text(g, "boy 5;");
        for (int text : new int[] {1, 3, 4, -1, -2, LEAST, MOST}) Due.is("played(" + text + ")", g.played(text), -2);
        Due.is("nothing is done", g.about(1), 0);
    }

    static void promise16() {
        Said.at("16", "WINTERS: MINUTE. NONE for others.");
        RockingGuard g = new RockingGuard();
        int[][] others = {{-1, 1}, {10000, 1}, {LEAST, 1}, {MOST, 1}, {0, 0}, {0, -1}, {0, 41}, {0, LEAST}, {0, MOST}};
        for (int[] o : others) Due.is("winters(" + o[0] + ", " + o[1] + ")", g.winters(o[0], o[1]), -1);
        Due.is("X", g.is(4), 151);
        Due.is("no STEP", g.about(4), 0);
        g.minute(7);
        Due.is("winters(0, 1)", g.winters(0, 1), 7);
        Due.is("winters(0, 40)", g.winters(0, 40), 22);
        Due.is("winters(9999, 40)", g.winters(9999, 40), 33);
    }

    static void promise17() {
        Said.at("17", "The latest STEP is taken back: how many can be yet.");
        RockingGuard g = Scene.ridden(1);
        g.minute(3);
        Due.is("undo()", g.undo(), 3);
        Due.is("MINUTE", g.is(0), 2);
        Due.is("undo()", g.undo(), 2);
        Due.is("undo()", g.undo(), 1);
        Due.is("undo()", g.undo(), 0);
        Due.is("he is on none", g.ofBoy(0, 2), -1);
        g.minute(60);
        Due.is("thirty at most", g.undo(), 29);
    }

    static void promise17None() {
        Said.at("17", "NONE: there is none.");
        RockingGuard g = Scene.horses(2);
        Due.is("at first", g.undo(), -1);
        g.nail(0, 1);
        g.undo();
        Due.is("all taken back", g.undo(), -1);
        Due.is("SHIFT", g.ofHorse(0, 1), 0);
        Due.is("the HORSE", g.about(0), 1);
        Due.is("none can be", g.about(4), 0);
    }

    static void promise18() {
        Said.at("18", "Of a HORSE: 0 BEAT, 1 SHIFT, 2 WEAR, 3 the boy on it (NONE), 4 whether it ROCKS now (1, 0), 5 wears now (as if it did).");
        RockingGuard g = new RockingGuard();
        g.horse(3, 2);
        g.horse(2, 1);
        g.boy(5);
        g.boy(7);
        g.mount(1, 1);
        Due.rule(g, "wears size+2;");
        g.minute(3);
        int[] want = {2, 1, 9, 1, 1, 9};
        for (int what = 0; what < want.length; what++) Due.is("ofHorse(1, " + what + ")", g.ofHorse(1, what), want[what]);
        int[] free = {3, 2, 0, -1, 0, 2};
        for (int what = 0; what < free.length; what++) Due.is("ofHorse(0, " + what + ")", g.ofHorse(0, what), free[what]);
        RockingGuard worn = Scene.worn(99);
        Due.is("one that is worn out doesn't ROCK", worn.ofHorse(0, 4), 0);
        Due.is("wears as if it did", worn.ofHorse(0, 5), 1);
    }

    static void promise18Others() {
        Said.at("18", "-2 for others.");
        RockingGuard g = Scene.horses(2);
        for (int what : new int[] {6, -1, LEAST, MOST}) Due.is("ofHorse(0, " + what + ")", g.ofHorse(0, what), -2);
        for (int horse : new int[] {1, 7, 8, -1, LEAST, MOST}) {
            for (int what = 0; what < 6; what++) Due.is("ofHorse(" + horse + ", " + what + ")", g.ofHorse(horse, what), -2);
        }
    }

    static void promise19() {
        Said.at("19", "Of a boy: 0 SIZE, 1 TIRED, 2 the HORSE he is on (NONE), 3 tires now (0, if he is on none).");
        RockingGuard g = Scene.horses(1, 1);
        g.boy(4);
        g.boy(6);
        g.mount(1, 1);
        Due.rule(g, "tires 3;");
        g.minute(2);
        int[] want = {6, 6, 1, 3};
        for (int what = 0; what < want.length; what++) Due.is("ofBoy(1, " + what + ")", g.ofBoy(1, what), want[what]);
        int[] free = {4, 0, -1, 0};
        for (int what = 0; what < free.length; what++) Due.is("ofBoy(0, " + what + ")", g.ofBoy(0, what), free[what]);
        g.off(1);
        Due.is("0, whatever the law", g.ofBoy(1, 3), 0);
    }

    static void promise19Others() {
        Said.at("19", "-2 for others.");
        RockingGuard g = new RockingGuard();
        g.boy(5);
        for (int what : new int[] {4, -1, LEAST, MOST}) Due.is("ofBoy(0, " + what + ")", g.ofBoy(0, what), -2);
        for (int boy : new int[] {1, 5, 6, -1, LEAST, MOST}) {
            for (int what = 0; what < 4; what++) Due.is("ofBoy(" + boy + ", " + what + ")", g.ofBoy(boy, what), -2);
        }
    }

    static void promise20() {
        Said.at("20", "0 MINUTE, 1 SNOW, 2 LIMIT, 3 OIL, 4 X, 5 seen now, 6 how many ROCK now.");
        RockingGuard g = Scene.ridden(1, 1);
        g.limit(4);
        g.minute(3);
        g.oil(0);
        int[] want = {3, 6, 4, 8, 151, 16, 2};
        for (int what = 0; what < want.length; what++) Due.is("is(" + what + ")", g.is(what), want[what]);
        g.off(1);
        Due.is("seen now", g.is(5), 8);
        Due.is("one rocks now", g.is(6), 1);
    }

    static void promise20Others() {
        Said.at("20", "-2 for others.");
        RockingGuard g = new RockingGuard();
        for (int what : new int[] {7, -1, -2, LEAST, MOST}) Due.is("is(" + what + ")", g.is(what), -2);
    }

    static void promise21() {
        Said.at("21", "BOOK: how many (i NONE); the i-th, from the eldest on: 0 MINUTE, 1 SNOW, 2 HORSES.");
        RockingGuard g = Scene.ridden(1, 2);
        Due.is("none", g.book(-1, 0), 0);
        g.limit(2);
        g.minute(3);
        int[][] want = {{0, 2, 3}, {2, 3, 3}};
        Due.is("two", g.book(-1, 0), 2);
        Due.is("how many, whatever is asked", g.book(-1, 2), 2);
        for (int i = 0; i < 2; i++) for (int what = 0; what < 3; what++) Due.is("book(" + i + ", " + what + ")", g.book(i, what), want[i][what]);
    }

    static void promise21Others() {
        Said.at("21", "-2 if there is none such, and for others.");
        RockingGuard g = Scene.ridden(1);
        Due.is("an empty BOOK", g.book(0, 0), -2);
        g.limit(1);
        g.minute(1);
        for (int i : new int[] {1, 29, 30, -2, LEAST, MOST}) Due.is("book(" + i + ", 0)", g.book(i, 0), -2);
        for (int what : new int[] {3, -1, LEAST, MOST}) Due.is("book(0, " + what + ")", g.book(0, what), -2);
        RockingGuard full = Scene.ridden(1);
        Due.rule(full, "tires 0;");
        full.limit(1);
        full.minute(40);
        Due.is("the 30th", full.book(29, 0), 39);
        Due.is("a 31st", full.book(30, 0), -2);
    }

    static void promise22() {
        Said.at("22", "ROCKING (bits). NONE for others.");
        RockingGuard g = Scene.ridden(2, 3);
        Due.is("rocking(6)", g.rocking(6), 3);
        Due.is("rocking(0)", g.rocking(0), 3);
        Due.is("rocking(9999)", g.rocking(9999), 2);
        for (int m : new int[] {-1, 10000, LEAST, MOST}) Due.is("rocking(" + m + ")", g.rocking(m), -1);
    }

    static void promise23() {
        Said.at("23", "TOGETHER. NONE: none, and for others (no HORSES, or not told).");
        RockingGuard g = new RockingGuard();
        Due.is("none is told", g.together(1), -1);
        g.horse(4, 1);
        g.horse(6, 3);
        g.horse(4, 2);
        Due.is("together(3)", g.together(3), 9);
        Due.is("together(5): none", g.together(5), -1);
        for (int set : new int[] {0, 8, 9, 15, 16, 128, 256, 257, -1, -8, LEAST, MOST}) Due.is("together(" + set + ")", g.together(set), -1);
        RockingGuard full = Scene.horses(1, 1, 1, 1, 1, 1, 1, 1);
        Due.is("all eight", full.together(255), 0);
        Due.is("a ninth", full.together(256), -1);
    }

    static void promise24() {
        Said.at("24", "FORETOLD: 0 SNOW (whoever of), 1 WEAR of a HORSE, 2 TIRED of a boy.");
        RockingGuard g = Scene.ridden(1, 2);
        Due.is("SNOW", g.foretold(3, 0, 0), 5);
        for (int of : new int[] {-1, 9, LEAST, MOST}) Due.is("SNOW, whoever", g.foretold(3, 0, of), 5);
        Due.is("WEAR of 0", g.foretold(3, 1, 0), 3);
        Due.is("WEAR of 1", g.foretold(3, 1, 1), 2);
        Due.is("TIRED of 0", g.foretold(3, 2, 0), 3);
        Due.is("TIRED of 1", g.foretold(3, 2, 1), 2);
    }

    static void promise24Others() {
        Said.at("24", "NONE for others.");
        RockingGuard g = Scene.ridden(1);
        for (int n : new int[] {0, -1, 61, LEAST, MOST}) for (int what = 0; what < 3; what++) Due.is("foretold(" + n + ", " + what + ", 0)", g.foretold(n, what, 0), -1);
        for (int what : new int[] {3, -1, LEAST, MOST}) Due.is("foretold(1, " + what + ", 0)", g.foretold(1, what, 0), -1);
        for (int of : new int[] {1, 7, 8, -1, LEAST, MOST}) {
            Due.is("foretold(1, 1, " + of + ")", g.foretold(1, 1, of), -1);
            Due.is("foretold(1, 2, " + of + ")", g.foretold(1, 2, of), -1);
        }
        g.horse(1, 0);
        Due.is("a HORSE, but no boy", g.foretold(1, 2, 1), -1);
        Due.is("WEAR of it", g.foretold(1, 1, 1), 0);
    }
}
