/** Promises 25 to 48, sentence by sentence. */
public final class SaidMoreTest {
    private static final int LEAST = Scene.LEAST;
    private static final int MOST = Scene.MOST;

    public static void main(String[] args) {
        String[] places = new String[24];
        for (int i = 0; i < places.length; i++) places[i] = "" + (i + 25);
        Said.runAll(SaidMoreTest.class, places);
    }

    static void promise25() {
        Said.at("25", "FIRST SLIDE. NONE: none.");
        Due.is("no HORSES", new RockingGuard().firstSlide(), -1);
        RockingGuard g = Scene.ridden(3, 3);
        Due.is("LIMIT 8", g.firstSlide(), -1);
        g.limit(2);
        Due.is("now", g.firstSlide(), 1);
        g.minute(1);
        Due.is("at 3", g.firstSlide(), 3);
        g.off(0);
        Due.is("one alone", g.firstSlide(), -1);
    }

    static void promise26() {
        Said.at("26", "UNMANNED. NONE: none.");
        Due.is("no boys", new RockingGuard().unmanned(), 0);
        RockingGuard g = Scene.ridden(6);
        // His ninth time is at 48.
        Due.is("in 49", g.unmanned(), 49);
        Due.rule(g, "tires 0;");
        Due.is("never", g.unmanned(), -1);
        g.off(0);
        Due.is("now", g.unmanned(), 0);
    }

    static void promise27() {
        Said.at("27", "SAFE (bits). NONE for others.");
        RockingGuard g = Scene.horses(2, 2, 3);
        Due.is("safe(1, 1)", g.safe(1, 1), 0);
        Due.is("safe(99, 8)", g.safe(99, 8), 7);
        Due.is("safe(99, 3)", g.safe(99, 3), 3);
        for (int n : new int[] {0, -1, 100, LEAST, MOST}) Due.is("safe(" + n + ", 1)", g.safe(n, 1), -1);
        for (int k : new int[] {0, -1, 9, LEAST, MOST}) Due.is("safe(1, " + k + ")", g.safe(1, k), -1);
    }

    static void promise28() {
        Said.at("28", "HEARD: how many there are (minute NONE: none any more).");
        RockingGuard g = Scene.horses(1);
        Due.is("heard(0, 0)", g.heard(0, 0), 1);
        Due.is("heard(9999, 8)", g.heard(9999, 8), 2);
        for (int creaks : new int[] {0, -1, 9, LEAST, MOST}) {
            Due.is("none any more, whatever the creaks", g.heard(-1, creaks), 0);
            Due.is("none", g.about(5), 0);
            Due.is("one", g.heard(0, 1), 1);
        }
        Due.is("it counts", g.rode(1), 1);
    }

    static void promise28Others() {
        Said.at("28", "-2 for others, or if there are 8.");
        RockingGuard g = Scene.horses(1);
        for (int m : new int[] {-2, 10000, LEAST, MOST}) Due.is("heard(" + m + ", 1)", g.heard(m, 1), -2);
        for (int creaks : new int[] {-1, 9, LEAST, MOST}) Due.is("heard(1, " + creaks + ")", g.heard(1, creaks), -2);
        Due.is("none of these", g.about(5), 0);
        for (int i = 1; i <= 8; i++) Due.is("heard", g.heard(i, 1), i);
        Due.is("a ninth", g.heard(9, 0), -2);
        Due.is("it isn't HEARD", g.rode(0), 1);
        Due.is("none any more", g.heard(-1, 0), 0);
        Due.is("one again", g.heard(9, 0), 1);
    }

    static void promise29() {
        Said.at("29", "WHO RODE: how many sets (what 0), SURE (1; bits), NEVER (2; bits).");
        RockingGuard g = Scene.horses(1, 2, 1);
        g.heard(1, 2);
        Due.is("sets", g.rode(0), 2);
        Due.is("SURE", g.rode(1), 5);
        Due.is("NEVER", g.rode(2), 0);
        g.heard(0, 2);
        Due.is("sets", g.rode(0), 1);
        Due.is("SURE", g.rode(1), 5);
        Due.is("NEVER", g.rode(2), 2);
    }

    static void promise29Others() {
        Said.at("29", "NONE for others.");
        RockingGuard g = Scene.horses(1);
        for (int what : new int[] {-1, 3, LEAST, MOST}) Due.is("rode(" + what + ")", g.rode(what), -1);
    }

    static void promise30() {
        Said.at("30", "LISTEN. NONE: none, and for others.");
        RockingGuard g = Scene.horses(3);
        g.nail(0, 2);
        Due.is("listen(1)", g.listen(1), 0);
        Due.is("listen(2)", g.listen(2), 0);
        Due.is("listen(3)", g.listen(3), 2);
        Due.is("listen(60)", g.listen(60), 2);
        for (int n : new int[] {0, -1, 61, LEAST, MOST}) Due.is("listen(" + n + ")", g.listen(n), -1);
        Due.is("no HORSES: one count each", new RockingGuard().listen(60), 0);
        g.heard(0, 1);
        Due.is("no sets", g.listen(60), -1);
    }

    static void promise31() {
        Said.at("31", "A WATCH: how many there are (horse NONE: none any more).");
        RockingGuard g = Scene.horses(2, 2);
        g.boy(5);
        Due.is("watch(1, 1, 9)", g.watch(1, 1, 9), 1);
        Due.is("watch(0, 9, 9)", g.watch(0, 9, 9), 2);
        for (int n : new int[] {0, 10, LEAST, MOST}) {
            Due.is("none any more, whatever the SIZES", g.watch(-1, n, 0), 0);
            Due.is("none", g.about(6), 0);
            Due.is("one", g.watch(0, 5, 5), 1);
        }
        Due.is("it is manned", g.manned(0), 0);
    }

    static void promise31Others() {
        Said.at("31", "-2 for others (a no more than b), or if there are 6.");
        RockingGuard g = Scene.horses(2);
        int[][] others = {{1, 1, 9}, {8, 1, 9}, {-2, 1, 9}, {LEAST, 1, 9}, {MOST, 1, 9}, {0, 0, 5}, {0, -1, 5}, {0, 5, 10}, {0, 10, 10}, {0, 0, 0}, {0, 6, 5},
            {0, 9, 1}, {0, LEAST, 5}, {0, 5, MOST}, {0, MOST, LEAST}};
        for (int[] o : others) Due.is("watch(" + o[0] + ", " + o[1] + ", " + o[2] + ")", g.watch(o[0], o[1], o[2]), -2);
        Due.is("none of these", g.about(6), 0);
        for (int i = 1; i <= 6; i++) Due.is("watch", g.watch(0, i, i), i);
        Due.is("a seventh", g.watch(0, 1, 9), -2);
        g.boy(9);
        Due.is("it isn't there", g.manned(-1), 0);
        g.watch(-1, 0, 0);
        Due.is("the first again", g.watch(0, 1, 9), 1);
    }

    static void promise32() {
        Said.at("32", "MANNED: how many (i NONE), who the i-th has (NONE).");
        RockingGuard g = Scene.horses(2);
        Due.is("no WATCHES", g.manned(-1), 0);
        g.boy(3);
        g.boy(4);
        g.watch(0, 5, 9);
        g.watch(0, 4, 9);
        Due.is("one", g.manned(-1), 1);
        Due.is("the first has none", g.manned(0), -1);
        Due.is("the second has boy 1", g.manned(1), 1);
    }

    static void promise32Others() {
        Said.at("32", "-2 for others.");
        RockingGuard g = Scene.horses(2);
        Due.is("no WATCHES", g.manned(0), -2);
        g.watch(0, 1, 9);
        for (int i : new int[] {1, 5, 6, -2, LEAST, MOST}) Due.is("manned(" + i + ")", g.manned(i), -2);
    }

    static void promise33() {
        Said.at("33", "BELOW: the upper (low false), the lower one (low true).");
        RockingGuard g = new RockingGuard();
        Due.is("upper", g.below(5, 8, 9, false), 9);
        Due.is("lower", g.below(5, 8, 9, true), 11);
        Due.is("upper of 0", g.below(5, 8, 7, false), 0);
        Due.is("lower of 0", g.below(5, 8, 7, true), 1);
    }

    static void promise33Others() {
        Said.at("33", "NONE for others.");
        RockingGuard g = new RockingGuard();
        for (int r : new int[] {0, -1, 10, LEAST, MOST}) Due.is("below(" + r + ", 0, 0)", g.below(r, 0, 0, false), -1);
        for (int n : new int[] {-1, 10, LEAST, MOST}) {
            Due.is("below(5, " + n + ", 0)", g.below(5, n, 0, true), -1);
            Due.is("below(5, 0, " + n + ")", g.below(5, 0, n, false), -1);
        }
    }

    static void promise34() {
        Said.at("34", "A GALE: the upper (low false), the lower one (low true).");
        RockingGuard g = Scene.horses(1, 1);
        Due.is("upper", g.gale(3, 3, 1, false), 91);
        Due.is("lower", g.gale(3, 3, 1, true), 100);
        Due.is("upper of the empty set", g.gale(0, 3, 0, false), 1);
        Due.is("lower of the empty set", g.gale(0, 3, 0, true), 1);
    }

    static void promise34Others() {
        Said.at("34", "NONE for others (k 0 .. 8).");
        RockingGuard g = Scene.horses(1, 1);
        for (int set : new int[] {4, 5, 256, -1, LEAST, MOST}) Due.is("gale(" + set + ", 5, 0)", g.gale(set, 5, 0, true), -1);
        for (int over : new int[] {-1, 11, LEAST, MOST}) Due.is("gale(3, " + over + ", 0)", g.gale(3, over, 0, true), -1);
        for (int k : new int[] {-1, 9, LEAST, MOST}) Due.is("gale(3, 5, " + k + ")", g.gale(3, 5, k, true), -1);
        Due.is("k 8 of two", g.gale(3, 5, 8, false), 0);
        Due.is("k 8 of two", g.gale(3, 5, 8, true), 1);
        Due.is("k 0", g.gale(3, 5, 0, false), 1);
    }

    static void promise35() {
        Said.at("35", "ROPES (bits). NONE for others.");
        RockingGuard g = Scene.ridden(1, 2);
        g.minute(3);
        Due.is("ropes(0)", g.ropes(0), 0);
        Due.is("ropes(1)", g.ropes(1), 1);
        Due.is("ropes(8)", g.ropes(8), 3);
        for (int n : new int[] {-1, 9, LEAST, MOST}) Due.is("ropes(" + n + ")", g.ropes(n), -1);
    }

    static void promise36() {
        Said.at("36", "A HAUL: how many there are (wear NONE: none any more).");
        RockingGuard g = new RockingGuard();
        Due.is("haul(0)", g.haul(0), 1);
        Due.is("haul(98)", g.haul(98), 2);
        Due.is("they come", g.oilings(98, true), 2);
        Due.is("none any more", g.haul(-1), 0);
        Due.is("none", g.about(7), 0);
        Due.is("nothing comes", g.oilings(98, false), 0);
    }

    static void promise36Others() {
        Said.at("36", "-2 for others, or if there are 8.");
        RockingGuard g = new RockingGuard();
        for (int wear : new int[] {-2, 99, LEAST, MOST}) Due.is("haul(" + wear + ")", g.haul(wear), -2);
        Due.is("none of these", g.about(7), 0);
        for (int i = 1; i <= 8; i++) Due.is("haul(0)", g.haul(0), i);
        Due.is("a ninth", g.haul(98), -2);
        Due.is("it doesn't come", g.oilings(98, false), 0);
    }

    static void promise37() {
        Said.at("37", "OIL FOR ALL WINTER: how many (days false), days (days true; bits). NONE for others.");
        RockingGuard g = new RockingGuard();
        Due.is("no HAULS", g.oilings(98, false), 0);
        Due.is("no HAULS", g.oilings(98, true), 0);
        g.haul(60);
        g.haul(30);
        g.haul(90);
        Due.is("how many", g.oilings(9, false), 2);
        Due.is("days", g.oilings(9, true), 6);
        for (int w : new int[] {-1, 99, LEAST, MOST}) {
            Due.is("oilings(" + w + ", false)", g.oilings(w, false), -1);
            Due.is("oilings(" + w + ", true)", g.oilings(w, true), -1);
        }
    }

    static void promise38() {
        Said.at("38", "SHOW (bits). NONE: none, and for others.");
        RockingGuard g = Scene.ridden(1, 1);
        Due.is("show(0)", g.show(0), 0);
        Due.is("show(8)", g.show(8), 1);
        Due.is("show(16)", g.show(16), 3);
        Due.is("show(24)", g.show(24), -1);
        for (int v : new int[] {-1, 100, LEAST, MOST}) Due.is("show(" + v + ")", g.show(v), -1);
        Due.rule(g, "seen 100;");
        Due.is("show(99)", g.show(99), 0);
        Due.is("show(100)", g.show(100), -1);
    }

    static void promise39() {
        Said.at("39", "COUNTED: how many there are (rocking NONE: none any more).");
        RockingGuard g = new RockingGuard();
        Due.text(g, "seen 5;");
        Due.is("counted(0, 0)", g.counted(0, 0), 1);
        Due.is("counted(8, 99)", g.counted(8, 99), 2);
        for (int seen : new int[] {0, -1, 100, LEAST, MOST}) {
            Due.is("none any more, whatever is seen", g.counted(-1, seen), 0);
            Due.is("none", g.about(8), 0);
            Due.is("one", g.counted(3, 5), 1);
        }
        Due.is("it counts", g.whose(), 1);
    }

    static void promise39Others() {
        Said.at("39", "-2 for others, or if there are 8.");
        RockingGuard g = new RockingGuard();
        Due.text(g, "seen 5;");
        for (int rocking : new int[] {-2, 9, LEAST, MOST}) Due.is("counted(" + rocking + ", 1)", g.counted(rocking, 1), -2);
        for (int seen : new int[] {-1, 100, LEAST, MOST}) Due.is("counted(1, " + seen + ")", g.counted(1, seen), -2);
        Due.is("none of these", g.about(8), 0);
        for (int i = 1; i <= 8; i++) Due.is("counted", g.counted(i, 5), i);
        Due.is("a ninth", g.counted(1, 1), -2);
        Due.is("it isn't COUNTED", g.whose(), 1);
    }

    static void promise40() {
        Said.at("40", "WHOSE LAW (bits).");
        RockingGuard g = new RockingGuard();
        Due.is("no TEXTS", g.whose(), 0);
        g.counted(1, 8);
        Due.is("no TEXTS, COUNTED", g.whose(), 0);
        Due.text(g, "seen 8;");
        Due.text(g, "seen 9;");
        Due.text(g, "");
        Due.text(g, "seen 8*rocking;");
        Due.is("0, 2 and 3", g.whose(), 13);
        g.by(1);
        Due.is("whatever rules", g.whose(), 13);
        g.back();
        Due.is("BACK to none", g.whose(), 0);
    }

    static void promise41() {
        Said.at("41", "BY THE BOOK: SNOW (horse NONE), in how many slides. -2 for others.");
        RockingGuard g = Scene.ridden(1, 2);
        Due.is("an empty BOOK", g.slid(-1), 0);
        Due.is("an empty BOOK", g.slid(1), 0);
        g.limit(1);
        g.minute(3);
        Due.is("SNOW", g.slid(-1), 5);
        Due.is("HORSE 0", g.slid(0), 3);
        Due.is("HORSE 1", g.slid(1), 2);
        for (int horse : new int[] {2, 7, 8, 31, 32, -2, LEAST, MOST}) Due.is("slid(" + horse + ")", g.slid(horse), -2);
    }

    static void promise42() {
        Said.at("42", "STEP (bits).");
        RockingGuard g = new RockingGuard();
        Due.is("no HORSES", g.inStep(), 0);
        for (int i = 0; i < 8; i++) g.horse(9, i);
        Due.is("eight of eight SHIFTS", g.inStep(), 0);
        g.nail(0, 7);
        Due.is("two", g.inStep(), 129);
        for (int i = 1; i < 7; i++) g.nail(i, 7);
        Due.is("all eight", g.inStep(), 255);
    }

    static void promise43() {
        Said.at("43", "TIREDEST. NONE: none.");
        RockingGuard g = Scene.horses(1);
        Due.is("no boy is told", g.tiredest(), -1);
        g.boy(5);
        Due.is("0, too", g.tiredest(), 0);
        g.boy(5);
        g.mount(1, 0);
        g.minute(9);
        Due.is("at 9", g.tiredest(), 1);
    }

    static void promise44() {
        Said.at("44", "VETERANS (bits). NONE for others.");
        RockingGuard g = new RockingGuard();
        Due.is("no boys", g.veterans(9), 0);
        g.boy(8);
        g.boy(9);
        Due.is("veterans(9)", g.veterans(9), 2);
        Due.is("veterans(8)", g.veterans(8), 3);
        Due.is("veterans(1)", g.veterans(1), 3);
        for (int s : new int[] {0, -1, 10, LEAST, MOST}) Due.is("veterans(" + s + ")", g.veterans(s), -1);
    }

    static void promise45() {
        Said.at("45", "LONELY. NONE: none.");
        RockingGuard g = new RockingGuard();
        Due.is("no HORSES", g.lonely(), -1);
        g.horse(2, 0);
        g.horse(4, 2);
        Due.is("none", g.lonely(), -1);
        g.horse(4, 1);
        Due.is("the odd one", g.lonely(), 2);
    }

    static void promise46() {
        Said.at("46", "THE IMAGE is as all is now: MINUTE.");
        RockingGuard g = new RockingGuard();
        Due.is("image()", g.image(), 0);
        g.horse(2, 0);
        g.minute(5);
        Due.is("image()", g.image(), 5);
        g.minute(5);
        Due.is("image()", g.image(), 10);
        g.minute(1);
        Due.is("the latest IMAGE", g.back(), 10);
        Scene.pass(g, 9989);
        Due.is("image() at the last MINUTE", g.image(), 9999);
    }

    static void promise47() {
        Said.at("47", "BACK to THE IMAGE (it stays): MINUTE.");
        RockingGuard g = new RockingGuard();
        Due.is("BACK to the first", g.back(), 0);
        g.horse(3, 0);
        g.minute(4);
        g.image();
        for (int i = 0; i < 3; i++) {
            g.nail(0, 2);
            g.minute(60);
            g.horse(3, 1);
            Due.is("back()", g.back(), 4);
            Due.is("SHIFT", g.ofHorse(0, 1), 0);
            Due.is("one HORSE", g.about(0), 1);
            Due.is("STEPS", g.about(4), 4);
            Due.is("STEPS can be taken back", g.undo(), 3);
            Due.is("MINUTE", g.is(0), 3);
        }
    }

    static void promise47FullRing() {
        Said.at("47", "BACK to THE IMAGE (it stays)");
        RockingGuard g = Scene.horses(9);
        for (int i = 1; i <= 44; i++) g.nail(0, i % 9);
        g.image();
        // As many as there can be, so that nothing of the IMAGE is left but in the IMAGE.
        for (int i = 0; i < 30; i++) g.nail(0, i % 2);
        g.back();
        for (int i = 43; i >= 14; i--) {
            Due.is("undo()", g.undo(), i - 14);
            Due.is("SHIFT", g.ofHorse(0, 1), i % 9);
        }
        Due.is("none", g.undo(), -1);
    }

    static void promise47Texts() {
        Said.at("47", "BACK to THE IMAGE (it stays)");
        RockingGuard g = new RockingGuard();
        Due.rule(g, "seen 11;");
        g.image();
        for (int i = 1; i < 4; i++) Due.is("text()", Due.text(g, "seen " + i + ";"), i);
        g.by(3);
        g.back();
        Due.is("one TEXT", g.about(2), 1);
        Due.is("it rules", g.about(3), 0);
        Due.is("by(1)", g.by(1), false);
        Due.is("played(1)", g.played(1), -2);
        Due.is("the next is 1 again", Due.text(g, "seen 22;"), 1);
        g.by(1);
        Due.is("it is the new one", g.is(5), 22);
        g.by(0);
        Due.is("the first is as it was", g.is(5), 11);
    }

    static void promise48() {
        Said.at("48", "0 HORSES, 1 BOYS, 2 TEXTS, 3 THE TEXT (NONE), 4 STEPS that can be taken back, 5 HEARD, 6 WATCHES, 7 HAULS, 8 COUNTED, 9 bytes of the tape.");
        RockingGuard g = Scene.horses(1, 1, 1, 1, 1, 1, 1, 1);
        for (int i = 0; i < 6; i++) g.boy(1);
        for (int i = 0; i < 4; i++) g.text();
        Due.is("THE TEXT: none", g.about(3), -1);
        g.by(3);
        g.minute(31);
        for (int i = 0; i < 8; i++) {
            g.heard(1, 1);
            g.watch(0, 1, 1);
            g.haul(1);
            g.counted(1, 1);
        }
        for (int i = 0; i < 15; i++) g.feed(0, 0, 0, 0, 0);
        int[] full = {8, 6, 4, 3, 30, 8, 6, 8, 8, 300};
        for (int what = 0; what < full.length; what++) Due.is("about(" + what + ")", g.about(what), full[what]);
    }

    static void promise48Others() {
        Said.at("48", "-2 for others.");
        RockingGuard g = new RockingGuard();
        for (int what : new int[] {10, -1, -2, LEAST, MOST}) Due.is("about(" + what + ")", g.about(what), -2);
    }
}
