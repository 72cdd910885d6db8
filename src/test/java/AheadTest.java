/** Promises 23 to 32: what comes, what is heard, and watches. */
public final class AheadTest {
    private static final int[] FAR = {-1, -2, 100, 256, Integer.MAX_VALUE, Integer.MIN_VALUE};

    public static void main(String[] args) {
        together();
        foretold();
        firstSlide();
        unmanned();
        nearTheEnd();
        safe();
        heard();
        rode();
        listen();
        watches();
        manned();
        mannedLowest();
        Due.close();
    }

    private static RockingGuard guard(int[]... horses) {
        RockingGuard g = new RockingGuard();
        for (int[] h : horses) g.horse(h[0], h[1]);
        return g;
    }

    private static void together() {
        RockingGuard g = guard(new int[] {4, 1}, new int[] {6, 3}, new int[] {2, 0}, new int[] {9, 8}, new int[] {7, 0});
        Due.is("23: one alone", g.together(1), 1);
        Due.is("23: 9 mod 4 is 1, 9 mod 6 is 3", g.together(3), 9);
        Due.is("23: odd and even never", g.together(5), -1);
        Due.is("23: never", g.together(7), -1);
        // 21 mod 4 is 1, mod 6 is 3 and mod 7 is 0.
        Due.is("23: three", g.together(19), 21);
        Due.is("23: 8 is 2 mod 3, 3 is 0 mod 3", g.together(10), -1);
        // Even, 8 mod 9 and 0 mod 7: 98 is 8 mod 9, even, and 14 times 7.
        Due.is("23: three", g.together(28), 98);
        g.minute(60);
        g.minute(38);
        Due.is("23: this one, too", g.together(28), 98);
        g.minute(1);
        Due.is("23: 126 later", g.together(28), 224);
        Due.is("23: no horses", g.together(0), -1);
        for (int n : FAR) Due.is("23: together(" + n + ")", g.together(n), -1);
        Due.is("23: one not told", g.together(32), -1);
        Due.is("23: one not told among others", g.together(33), -1);
        RockingGuard whole = guard(new int[] {5, 4}, new int[] {7, 6}, new int[] {8, 7}, new int[] {9, 8});
        Due.is("23: the last of a round", whole.together(15), 2519);
        while (whole.is(0) < 7560) whole.minute(60);
        Due.is("23: 10079 is beyond", whole.together(15), -1);
        Due.is("23: 504 come round, not yet beyond", whole.together(14), 8063);
    }

    private static void foretold() {
        RockingGuard g = guard(new int[] {1, 0}, new int[] {2, 1});
        g.boy(5);
        g.boy(6);
        g.boy(7);
        g.mount(0, 0);
        g.mount(1, 1);
        Due.is("24: snow", g.foretold(4, 0, 0), 6);
        Due.is("24: whoever", g.foretold(4, 0, -77), 6);
        Due.is("24: wear", g.foretold(4, 1, 0), 4);
        Due.is("24: wear", g.foretold(4, 1, 1), 2);
        Due.is("24: tired", g.foretold(4, 2, 0), 4);
        Due.is("24: tired", g.foretold(4, 2, 1), 2);
        Due.is("24: off at 9, one less then", g.foretold(11, 2, 0), 7);
        Due.is("24: wear of nine minutes", g.foretold(60, 1, 0), 9);
        Due.is("24: on none", g.foretold(60, 2, 2), 0);
        Due.is("24: nothing is changed", g.is(0), 0);
        Due.is("24: nothing is changed", g.ofHorse(0, 2), 0);
        Due.is("24: no step", g.about(4), 2);
        g.limit(2);
        Due.is("24: a slide at 1", g.foretold(2, 0, 0), 0);
        Due.is("24: nothing is written", g.book(-1, 0), 0);
        Due.rule(g, "wears 4;tires 3;");
        Due.is("24: by the text", g.foretold(2, 1, 0), 8);
        Due.is("24: by the text", g.foretold(2, 2, 1), 6);
        Due.is("24: one minute", g.foretold(1, 1, 0), 4);
        Due.rule(g, "wears size;tires size-3;");
        Due.is("24: by sizes", g.foretold(1, 1, 0), 5);
        Due.is("24: by sizes", g.foretold(1, 2, 0), 2);
        Due.is("24: by sizes", g.foretold(1, 2, 1), 3);
        for (int n : new int[] {0, 61, -1, Integer.MAX_VALUE, Integer.MIN_VALUE}) Due.is("24: foretold(" + n + ", 0, 0)", g.foretold(n, 0, 0), -1);
        for (int n : new int[] {3, -1, Integer.MAX_VALUE, Integer.MIN_VALUE}) Due.is("24: foretold(1, " + n + ", 0)", g.foretold(1, n, 0), -1);
        for (int n : new int[] {2, -1, Integer.MAX_VALUE, Integer.MIN_VALUE}) Due.is("24: foretold(1, 1, " + n + ")", g.foretold(1, 1, n), -1);
        for (int n : new int[] {3, -1, Integer.MAX_VALUE, Integer.MIN_VALUE}) Due.is("24: foretold(1, 2, " + n + ")", g.foretold(1, 2, n), -1);
    }

    private static void firstSlide() {
        RockingGuard g = guard(new int[] {9, 0}, new int[] {8, 5});
        g.limit(2);
        g.boy(1);
        g.boy(1);
        Due.is("25: none rides", g.firstSlide(), -1);
        g.mount(0, 0);
        g.mount(1, 1);
        // 45 is 0 mod 9 and 5 mod 8; the minute 45 is the 46th from now.
        Due.is("25: in 46 minutes", g.firstSlide(), 46);
        g.minute(45);
        Due.is("25: in one", g.firstSlide(), 1);
        g.minute(1);
        Due.is("25: 117 is too far", g.firstSlide(), -1);
        Due.is("25: nothing is changed", g.is(0), 46);
        RockingGuard far = guard(new int[] {9, 0}, new int[] {8, 5});
        far.limit(2);
        far.boy(1);
        far.boy(1);
        Due.rule(far, "tires 0;");
        far.minute(57);
        far.mount(0, 0);
        far.mount(1, 1);
        Due.is("25: the 61st", far.firstSlide(), -1);
        far.minute(1);
        Due.is("25: the 60th", far.firstSlide(), 60);
    }

    private static void unmanned() {
        RockingGuard g = guard(new int[] {1, 0}, new int[] {7, 0});
        Due.is("26: now", g.unmanned(), 0);
        g.boy(1);
        g.boy(2);
        Due.is("26: now", g.unmanned(), 0);
        g.mount(0, 0);
        Due.is("26: in nine", g.unmanned(), 9);
        g.mount(1, 1);
        // The ninth time that it rocks is at minute 56.
        Due.is("26: in 57", g.unmanned(), 57);
        Due.is("26: nothing is changed", g.ofBoy(0, 2), 0);
        RockingGuard long8 = guard(new int[] {8, 0});
        long8.boy(1);
        long8.mount(0, 0);
        Due.is("26: the ninth at 64 is too far", long8.unmanned(), -1);
        RockingGuard just = guard(new int[] {8, 3});
        just.boy(1);
        just.mount(0, 0);
        just.minute(8);
        // Eight more at 11, 19, .. 67; the 60 minutes end with 67.
        Due.is("26: in 60", just.unmanned(), 60);
        just.undo();
        Due.is("26: in 61 is none", just.unmanned(), -1);
        Due.rule(just, "tires 0;");
        Due.is("26: never", just.unmanned(), -1);
    }

    private static void nearTheEnd() {
        RockingGuard g = guard(new int[] {1, 0});
        g.boy(5);
        for (int i = 0; i < 166; i++) g.minute(60);
        g.minute(34);
        g.mount(0, 0);
        g.limit(1);
        Due.is("24: those that can pass", g.foretold(60, 1, 0), 5);
        Due.is("26: none", g.unmanned(), -1);
        Due.is("25: at once", g.firstSlide(), 1);
        g.minute(5);
        Due.is("24: none can pass", g.foretold(60, 1, 0), 5);
        Due.is("25: none can pass", g.firstSlide(), -1);
        Due.is("23: this one", g.together(1), 9999);
        g.off(0);
        Due.is("26: now", g.unmanned(), 0);
    }

    private static void safe() {
        RockingGuard g = guard(new int[] {2, 0}, new int[] {2, 1}, new int[] {4, 0}, new int[] {3, 0});
        Due.is("27: by pairs: 0 with 1, 1 with 2, none larger", g.safe(99, 2), 3);
        Due.is("27: three of them, no three at once", g.safe(12, 3), 7);
        Due.is("27: all", g.safe(12, 4), 15);
        // In minute 0 alone 0, 2 and 3 are due.
        Due.is("27: one minute", g.safe(1, 2), 3);
        Due.is("27: one minute, none due", g.safe(1, 1), 2);
        Due.is("27: two minutes, none due", g.safe(2, 1), 0);
        g.minute(1);
        Due.is("27: from minute 1 on", g.safe(1, 1), 13);
        Due.is("27: from minute 1 on", g.safe(2, 2), 15);
        // In minute 3 horses 1 and 3 are due.
        Due.is("27: from minute 1 on", g.safe(3, 2), 7);
        Due.is("27: riders aside", g.safe(2, 8), 15);
        for (int n : new int[] {0, 100, -1, Integer.MAX_VALUE, Integer.MIN_VALUE}) Due.is("27: safe(" + n + ", 1)", g.safe(n, 1), -1);
        for (int n : new int[] {0, 9, -1, Integer.MAX_VALUE, Integer.MIN_VALUE}) Due.is("27: safe(1, " + n + ")", g.safe(1, n), -1);
        Due.is("27: one horse", guard(new int[] {5, 3}).safe(3, 1), 1);
        Due.is("27: one horse", guard(new int[] {5, 3}).safe(4, 1), 0);
        Due.is("27: no horses", new RockingGuard().safe(99, 1), 0);
    }

    private static void heard() {
        RockingGuard g = guard(new int[] {2, 0});
        for (int n : new int[] {-2, 10000, Integer.MAX_VALUE, Integer.MIN_VALUE}) Due.is("28: heard(" + n + ", 1)", g.heard(n, 1), -2);
        for (int n : new int[] {-1, 9, Integer.MAX_VALUE, Integer.MIN_VALUE}) Due.is("28: heard(1, " + n + ")", g.heard(1, n), -2);
        Due.is("28: at the edges", g.heard(9999, 8), 1);
        Due.is("28: at the edges", g.heard(0, 0), 2);
        for (int i = 3; i <= 8; i++) Due.is("28: heard", g.heard(i, 1), i);
        Due.is("28: a ninth", g.heard(9, 1), -2);
        Due.is("28: eight", g.about(5), 8);
        Due.is("28: none any more", g.heard(-1, 5), 0);
        Due.is("28: none", g.about(5), 0);
        Due.is("28: a first", g.heard(9, 1), 1);
    }

    private static void rode() {
        RockingGuard g = guard(new int[] {2, 0}, new int[] {2, 1}, new int[] {4, 0});
        Due.is("29: all sets", g.rode(0), 8);
        Due.is("29: sure", g.rode(1), 0);
        Due.is("29: never", g.rode(2), 0);
        g.heard(1, 1);
        Due.is("29: horse 1", g.rode(0), 4);
        Due.is("29: sure", g.rode(1), 2);
        g.heard(4, 1);
        Due.is("29: 0 or 2", g.rode(0), 2);
        Due.is("29: sure", g.rode(1), 2);
        Due.is("29: never", g.rode(2), 0);
        g.heard(2, 0);
        Due.is("29: not 0", g.rode(0), 1);
        Due.is("29: sure", g.rode(1), 6);
        Due.is("29: never", g.rode(2), 1);
        g.heard(2, 1);
        Due.is("29: no sets", g.rode(0), 0);
        Due.is("29: no sets", g.rode(1), 0);
        Due.is("29: no sets", g.rode(2), 0);
        for (int n : new int[] {-1, 3, Integer.MAX_VALUE, Integer.MIN_VALUE}) Due.is("29: rode(" + n + ")", g.rode(n), -1);
        Due.is("29: the empty set", new RockingGuard().rode(0), 1);
    }

    private static void listen() {
        RockingGuard g = guard(new int[] {2, 1}, new int[] {3, 2}, new int[] {4, 3});
        // Due: minute 1: 0; 2: 1; 3: 0 and 2; 5: 0 and 1; 11: all.
        Due.is("30: nothing is due now", g.listen(1), 0);
        Due.is("30: the soonest of two", g.listen(3), 1);
        Due.is("30: two at 3", g.listen(8), 3);
        Due.is("30: all at 11", g.listen(12), 11);
        Due.is("30: all at 11, again at 23", g.listen(60), 11);
        g.minute(4);
        Due.is("30: from 4 on: 0 and 1 at 5", g.listen(3), 1);
        Due.is("30: from 4 on", g.listen(60), 7);
        g.heard(1, 1);
        // Horse 0 rides: at 5 the others make 1 or 2, at 11 1, 2 or 3.
        Due.is("30: 5", g.listen(2), 1);
        Due.is("30: 11", g.listen(60), 7);
        g.heard(2, 0);
        // Just horse 2 is open: 7 is the first at which it is due.
        Due.is("30: 7", g.listen(60), 3);
        Due.is("30: 4 of like ones", g.listen(3), 0);
        g.heard(3, 0);
        Due.is("30: no sets", g.listen(60), -1);
        g.heard(-1, 0);
        for (int n : new int[] {0, 61, -1, Integer.MAX_VALUE, Integer.MIN_VALUE}) Due.is("30: listen(" + n + ")", g.listen(n), -1);
        Due.is("30: no horses", new RockingGuard().listen(5), 0);
    }

    private static void watches() {
        RockingGuard g = guard(new int[] {2, 0}, new int[] {2, 1});
        int[][] others = {{2, 1, 9}, {-2, 1, 9}, {8, 1, 9}, {0, 0, 9}, {0, 1, 10}, {0, 5, 4}, {0, -1, -1}, {0, 10, 10},
            {Integer.MAX_VALUE, 1, 1}, {0, Integer.MIN_VALUE, Integer.MAX_VALUE}};
        for (int[] o : others) Due.is("31: watch(" + o[0] + ", " + o[1] + ", " + o[2] + ")", g.watch(o[0], o[1], o[2]), -2);
        Due.is("31: a is b", g.watch(0, 9, 9), 1);
        for (int i = 2; i <= 6; i++) Due.is("31: watch", g.watch(1, 1, i), i);
        Due.is("31: a seventh", g.watch(1, 1, 9), -2);
        Due.is("31: six", g.about(6), 6);
        Due.is("31: none any more", g.watch(-1, 77, 0), 0);
        Due.is("31: none", g.about(6), 0);
        Due.is("31: a first", g.watch(1, 1, 9), 1);
    }

    private static void manned() {
        RockingGuard g = guard(new int[] {2, 0});
        Due.is("32: no watches", g.manned(-1), 0);
        Due.is("32: no watches", g.manned(0), -2);
        g.watch(0, 4, 6);
        Due.is("32: no boys", g.manned(-1), 0);
        Due.is("32: no boys", g.manned(0), -1);
        g.boy(7);
        g.boy(5);
        Due.is("32: one", g.manned(-1), 1);
        Due.is("32: he who fits", g.manned(0), 1);
        g.watch(0, 6, 9);
        Due.is("32: two", g.manned(-1), 2);
        Due.is("32: the second", g.manned(1), 0);
        for (int n : new int[] {2, 6, -2, Integer.MAX_VALUE, Integer.MIN_VALUE}) Due.is("32: manned(" + n + ")", g.manned(n), -2);
        Due.is("32: nothing is changed", g.about(4), 0);
    }

    private static void mannedLowest() {
        RockingGuard g = guard(new int[] {2, 0});
        g.boy(5);
        g.boy(5);
        g.boy(3);
        g.watch(0, 1, 9);
        g.watch(0, 5, 5);
        g.watch(0, 5, 5);
        // Both fives are wanted for three watches to be manned.
        Due.is("32: three", g.manned(-1), 3);
        Due.is("32: the first has the three", g.manned(0), 2);
        Due.is("32: the second", g.manned(1), 0);
        Due.is("32: the third", g.manned(2), 1);
        g.watch(0, 5, 5);
        Due.is("32: three of four", g.manned(-1), 3);
        Due.is("32: a five on the first would leave two in all", g.manned(0), 2);
        Due.is("32: the last has none", g.manned(3), -1);
        g.watch(-1, 0, 0);
        g.watch(0, 4, 4);
        Due.is("32: none fits", g.manned(-1), 0);
        Due.is("32: none fits", g.manned(0), -1);
        g.watch(0, 1, 9);
        Due.is("32: one of two", g.manned(-1), 1);
        Due.is("32: none fits", g.manned(0), -1);
        Due.is("32: the lowest", g.manned(1), 0);
        RockingGuard one = guard(new int[] {2, 0});
        one.boy(5);
        one.watch(0, 1, 5);
        one.watch(0, 1, 9);
        Due.is("32: the first rather than none", one.manned(0), 0);
        Due.is("32: none", one.manned(1), -1);
        RockingGuard all = guard(new int[] {2, 0});
        for (int i = 0; i < 6; i++) all.boy(6 - i);
        for (int i = 0; i < 6; i++) all.watch(0, 1, i + 1);
        Due.is("32: six", all.manned(-1), 6);
        for (int i = 0; i < 6; i++) Due.is("32: each has just one way", all.manned(i), 5 - i);
    }
}
