/** Promises 10 to 22: what is done and taken back, and what is asked of it. */
public final class StepTest {
    private static final int[] OUTSIDE = {-1, -2, 8, 99, Integer.MAX_VALUE, Integer.MIN_VALUE};

    public static void main(String[] args) {
        mounting();
        gettingOff();
        oiling();
        nailing();
        minutes();
        tiring();
        slides();
        bookOfThirty();
        lastMinute();
        winters();
        wintersWithout();
        undoing();
        undoWhatWasTold();
        undoThirty();
        ofHorse();
        ofBoy();
        ofAll();
        rocking();
        fullTerrace();
        Due.close();
    }

    /** Horses with these beats and no shift, and boys of size 5. */
    private static RockingGuard guard(int boys, int... beats) {
        RockingGuard g = new RockingGuard();
        for (int beat : beats) g.horse(beat, 0);
        for (int i = 0; i < boys; i++) g.boy(5);
        return g;
    }

    private static void mounting() {
        RockingGuard g = guard(2, 1, 2);
        for (int n : OUTSIDE) {
            Due.is("10: mount(" + n + ", 0)", g.mount(n, 0), false);
            Due.is("10: mount(0, " + n + ")", g.mount(0, n), false);
        }
        Due.is("10: a boy not told", g.mount(2, 0), false);
        Due.is("10: a horse not told", g.mount(0, 2), false);
        Due.is("10: no step", g.about(4), 0);
        Due.is("10: mounts", g.mount(1, 0), true);
        Due.is("10: who", g.ofHorse(0, 3), 1);
        Due.is("10: where", g.ofBoy(1, 2), 0);
        Due.is("10: he is on one", g.mount(1, 1), false);
        Due.is("10: it has one", g.mount(0, 0), false);
        Due.is("10: a step", g.about(4), 1);
        g.minute(9);
        Due.is("10: tired", g.ofBoy(1, 1), 9);
        Due.is("10: he is off", g.ofBoy(1, 2), -1);
        Due.is("10: too tired", g.mount(1, 0), false);
        g.minute(1);
        Due.is("10: rested by one", g.mount(1, 0), true);
    }

    private static void gettingOff() {
        RockingGuard g = guard(2, 1, 2);
        g.mount(0, 1);
        for (int n : OUTSIDE) Due.is("11: off(" + n + ")", g.off(n), -1);
        Due.is("11: on none", g.off(1), -1);
        Due.is("11: not told", g.off(2), -1);
        Due.is("11: off", g.off(0), 1);
        Due.is("11: on none then", g.ofBoy(0, 2), -1);
        Due.is("11: the horse is free", g.ofHorse(1, 3), -1);
        Due.is("11: two steps", g.about(4), 2);
    }

    private static void oiling() {
        RockingGuard g = guard(1, 1);
        g.mount(0, 0);
        g.minute(4);
        for (int n : OUTSIDE) Due.is("12: oil(" + n + ")", g.oil(n), -1);
        Due.is("12: not told", g.oil(1), -1);
        Due.is("12: wear", g.ofHorse(0, 2), 4);
        for (int i = 8; i >= 0; i--) Due.is("12: oil yet", g.oil(0), i);
        Due.is("12: none left", g.oil(0), -1);
        Due.is("12: wear", g.ofHorse(0, 2), 0);
        Due.is("12: steps", g.about(4), 14);
    }

    private static void nailing() {
        RockingGuard g = guard(0, 4, 1);
        for (int n : OUTSIDE) {
            Due.is("13: nail(" + n + ", 1)", g.nail(n, 1), false);
            Due.is("13: nail(0, " + n + ")", g.nail(0, n), false);
        }
        Due.is("13: it is so", g.nail(0, 0), false);
        Due.is("13: not below beat", g.nail(0, 4), false);
        Due.is("13: not told", g.nail(2, 0), false);
        Due.is("13: one shift alone", g.nail(1, 1), false);
        Due.is("13: no step", g.about(4), 0);
        Due.is("13: nailed", g.nail(0, 3), true);
        Due.is("13: another number", g.ofHorse(0, 1), 3);
        Due.is("13: it is so", g.nail(0, 3), false);
        Due.is("13: a step", g.about(4), 1);
    }

    private static void minutes() {
        RockingGuard g = guard(3, 2, 3);
        for (int n : new int[] {0, -1, 61, Integer.MAX_VALUE, Integer.MIN_VALUE}) Due.is("14: minute(" + n + ")", g.minute(n), -1);
        Due.is("14: none passed", g.is(0), 0);
        g.mount(0, 0);
        g.mount(1, 1);
        Due.is("14: minutes 0 to 5", g.minute(6), 0);
        Due.is("14: 0, 2, 4", g.ofHorse(0, 2), 3);
        Due.is("14: 0, 3", g.ofHorse(1, 2), 2);
        Due.is("14: his", g.ofBoy(0, 1), 3);
        Due.is("14: his", g.ofBoy(1, 1), 2);
        Due.is("14: one on none", g.ofBoy(2, 1), 0);
        Due.is("14: snow", g.is(1), 5);
        Due.is("14: minute", g.is(0), 6);
        Due.is("14: each a step", g.about(4), 8);
        g.off(0);
        g.minute(2);
        Due.is("14: resting", g.ofBoy(0, 1), 1);
        g.minute(2);
        Due.is("14: 0 at least", g.ofBoy(0, 1), 0);
        Due.is("14: minute(60)", g.minute(60), 0);
        Due.is("14: all steps that can be", g.about(4), 30);
    }

    private static void tiring() {
        RockingGuard g = guard(2, 1, 1);
        g.mount(0, 0);
        g.minute(3);
        g.mount(1, 1);
        g.minute(6);
        Due.is("14: at 9 he is off", g.ofBoy(0, 2), -1);
        Due.is("14: tired stays in that minute", g.ofBoy(0, 1), 9);
        Due.is("14: the other rides", g.ofBoy(1, 2), 1);
        Due.is("14: snow of 3 and of 6 twice", g.is(1), 15);
        g.minute(1);
        Due.is("14: one less then", g.ofBoy(0, 1), 8);
        Due.is("14: one rocked", g.is(1), 16);
    }

    private static void slides() {
        RockingGuard g = guard(2, 1, 2);
        g.limit(2);
        g.mount(0, 0);
        g.mount(1, 1);
        Due.is("14: slides at 0, 2, 4", g.minute(5), 3);
        Due.is("21: three", g.book(-1, 0), 3);
        int[][] want = {{0, 2, 3}, {2, 3, 3}, {4, 3, 3}};
        for (int i = 0; i < 3; i++) {
            for (int what = 0; what < 3; what++) Due.is("21: book(" + i + ", " + what + ")", g.book(i, what), want[i][what]);
        }
        for (int n : new int[] {3, -1, Integer.MAX_VALUE, Integer.MIN_VALUE}) Due.is("21: book(0, " + n + ")", g.book(0, n), -2);
        for (int n : new int[] {3, 30, -2, Integer.MAX_VALUE, Integer.MIN_VALUE}) Due.is("21: book(" + n + ", 0)", g.book(n, 0), -2);
        Due.is("14: snow is 0 then", g.is(1), 0);
        g.limit(1);
        Due.is("14: one is enough", g.minute(1), 1);
        Due.is("21: one rocked", g.book(3, 2), 1);
        g.limit(8);
        Due.is("14: too few", g.minute(1), 0);
    }

    private static void bookOfThirty() {
        RockingGuard g = guard(1, 1);
        g.limit(1);
        Due.rule(g, "wears 0;tires 0;");
        g.mount(0, 0);
        g.minute(30);
        Due.is("21: thirty", g.book(-1, 0), 30);
        Due.is("21: the eldest", g.book(0, 0), 0);
        g.minute(5);
        Due.is("21: thirty alone", g.book(-1, 0), 30);
        Due.is("21: the eldest", g.book(0, 0), 5);
        Due.is("21: the latest", g.book(29, 0), 34);
        Due.is("21: none behind", g.book(30, 0), -2);
        g.undo();
        Due.is("17: the book as ahead of it", g.book(0, 0), 4);
        Due.is("17: the book as ahead of it", g.book(29, 0), 33);
        g.limit(8);
        for (int i = 0; i < 18; i++) g.minute(60);
        Due.is("14: snow is 999 at most", g.is(1), 999);
        g.limit(1);
        g.minute(1);
        Due.is("21: all of it slid", g.book(29, 1), 999);
    }

    private static void lastMinute() {
        RockingGuard g = guard(1, 9);
        g.mount(0, 0);
        for (int i = 0; i < 166; i++) g.minute(60);
        Due.is("14: 9960", g.is(0), 9960);
        Due.is("14: beyond 9999", g.minute(40), -1);
        Due.is("14: nothing is done", g.is(0), 9960);
        Due.is("14: just to it", g.minute(39), 0);
        Due.is("14: 9999", g.is(0), 9999);
        Due.is("14: none can pass", g.minute(1), -1);
        Due.is("16: nor in winters", g.winters(3, 40), 9999);
        Due.is("16: a step all the same", g.undo(), 29);
        Due.is("25: no slide", g.firstSlide(), -1);
        Due.is("26: he was off long ago", g.unmanned(), 0);
        g.undo();
        Due.is("17: 9998", g.is(0), 9998);
    }

    private static void fullTerrace() {
        RockingGuard g = guard(0, 9, 9, 9, 9, 9, 9, 9, 9);
        for (int i = 0; i < 6; i++) g.boy(9 - i);
        for (int i = 0; i < 8; i++) g.nail(i, i);
        for (int i = 0; i < 6; i++) g.mount(i, 7 - i);
        Due.rule(g, "wears horse+1;tires size-4;");
        g.limit(1);
        g.minute(9);
        // Each of 2 .. 7 rocked once; tires is 5, 4, 3, 2, 1 and 0 each minute, so those who are off at 9 are so behind 2, 3, 3, 5 and 9 minutes.
        int[] wear = {0, 0, 3, 4, 5, 0, 0, 0};
        int[] tired = {2, 3, 3, 5, 9, 0};
        int[] seat = {-1, -1, -1, -1, -1, 2};
        for (int i = 0; i < 8; i++) {
            Due.is("14: shift of " + i, g.ofHorse(i, 1), i);
            Due.is("14: wear of " + i, g.ofHorse(i, 2), wear[i]);
        }
        for (int i = 0; i < 6; i++) {
            Due.is("14: tired of " + i, g.ofBoy(i, 1), tired[i]);
            Due.is("14: seat of " + i, g.ofBoy(i, 2), seat[i]);
        }
        Due.is("14: three slides", g.book(-1, 0), 3);
        for (int i = 0; i < 3; i++) {
            Due.is("21: minute", g.book(i, 0), i + 2);
            Due.is("21: snow", g.book(i, 1), 1);
            Due.is("21: horses", g.book(i, 2), 4 << i);
        }
    }

    private static void winters() {
        RockingGuard g = guard(3, 1, 2, 3, 4);
        for (int n : new int[] {0, 41, -1, Integer.MAX_VALUE, Integer.MIN_VALUE}) Due.is("16: winters(0, " + n + ")", g.winters(0, n), -1);
        for (int n : new int[] {-1, 10000, Integer.MAX_VALUE, Integer.MIN_VALUE}) Due.is("16: winters(" + n + ", 1)", g.winters(n, 1), -1);
        Due.is("16: no step", g.about(4), 0);
        Due.is("16: x stays", g.is(4), 151);
        // 151 mod 6 is 1: boy 151 mod 3 = 1 mounts horse 25 mod 4 = 1.
        Due.is("16: one draw", g.winters(0, 1), 0);
        Due.is("16: he mounted", g.ofBoy(1, 2), 1);
        Due.is("16: x anew", g.is(4), 27605);
        Due.is("16: one step", g.about(4), 1);
        g.undo();
        Due.is("17: x as ahead of it", g.is(4), 151);
        Due.is("17: he is on none", g.ofBoy(1, 2), -1);
        // Seed 18: 187, mod 6 is 1: boy 187 mod 3 = 1 mounts 31 mod 4 = 3.
        g.winters(18, 1);
        Due.is("16: x / 6 mod 4", g.ofBoy(1, 2), 3);
        g.undo();
        // 27605 mod 6 is 5: a minute.
        Due.is("16: two draws", g.winters(0, 2), 1);
        Due.is("16: x anew", g.is(4), 23092);
        // 9999 * 2 + 151 = 20149; 20149 * 383 + 263 = 7717330.
        g.winters(9999, 1);
        Due.is("16: x of the highest seed", g.is(4), 7717330 % 30491);
        // Seed 1: 153, mod 6 is 3, mod 5 is 3: not oiled.
        g.winters(1, 1);
        Due.is("16: not oiled", g.is(3), 9);
        // Seed 7: 165, mod 6 is 3, mod 5 is 0: horse 165 mod 4 = 1 is oiled.
        g.mount(2, 1);
        g.minute(2);
        int wear = g.ofHorse(1, 2);
        Due.is("16: worn ahead of it", wear > 0, true);
        g.winters(7, 1);
        Due.is("16: oiled", g.is(3), 8);
        Due.is("16: wear", g.ofHorse(1, 2), 0);
        g.undo();
        Due.is("17: oil as ahead of it", g.is(3), 9);
        Due.is("17: wear as ahead of it", g.ofHorse(1, 2), wear);
        RockingGuard one = guard(1, 1);
        one.mount(0, 0);
        one.minute(2);
        one.winters(7, 1);
        Due.is("16: the one there is", one.ofHorse(0, 2), 0);
        Due.is("16: the one there is", one.is(3), 8);
        wintersOff();
    }

    private static void wintersOff() {
        RockingGuard g = guard(3, 1, 2, 3, 4);
        for (int i = 0; i < 3; i++) g.mount(i, i);
        // All X at first are odd, so off comes by a later draw: behind one by which none can mount.
        int seed = 0;
        int draws = 0;
        int who = -1;
        for (int s = 0; s < 10000 && who < 0; s++) {
            int x = s * 2 + 151;
            if (x % 6 > 1) continue;
            int next = (x * 383 + 263) % 30491;
            if (next % 6 == 2 && next % 4 == 0) {
                seed = s;
                draws = 2;
                who = next % 3;
            }
        }
        g.winters(seed, draws);
        for (int i = 0; i < 3; i++) Due.is("16: off is just he", g.ofBoy(i, 2), i == who ? -1 : i);
        g.undo();
        for (int i = 0; i < 3; i++) Due.is("17: all are on again", g.ofBoy(i, 2), i);
        int still = -1;
        for (int s = 0; s < 10000 && still < 0; s++) {
            int x = s * 2 + 151;
            int next = (x * 383 + 263) % 30491;
            if (x % 6 < 2 && next % 6 == 2 && next % 4 != 0) still = s;
        }
        Due.is("16: nothing at all", g.winters(still, 2), 0);
        for (int i = 0; i < 3; i++) Due.is("16: all stay on", g.ofBoy(i, 2), i);
    }

    private static void wintersWithout() {
        RockingGuard g = new RockingGuard();
        Due.is("16: none of either", g.winters(0, 40) > 0, true);
        Due.is("16: one step", g.about(4), 1);
        Due.is("16: oil", g.is(3), 9);
        RockingGuard boys = guard(2);
        boys.winters(0, 40);
        Due.is("16: no horses", boys.ofBoy(0, 2), -1);
        RockingGuard horses = guard(0, 1, 2);
        horses.winters(0, 40);
        Due.is("16: no boys", horses.ofHorse(0, 3), -1);
        RockingGuard slid = guard(1, 1);
        slid.limit(1);
        slid.winters(0, 40);
        int many = slid.book(-1, 0);
        Due.is("16: slides are written down", many > 0, true);
        slid.undo();
        Due.is("17: and taken back", slid.book(-1, 0), 0);
        Due.is("17: minute", slid.is(0), 0);
    }

    private static void undoing() {
        RockingGuard g = guard(2, 1, 2);
        Due.is("17: none", g.undo(), -1);
        g.limit(2);
        g.mount(0, 0);
        g.mount(1, 1);
        g.minute(2);
        g.oil(0);
        g.nail(1, 1);
        g.off(1);
        g.limit(5);
        Due.is("17: off taken back", g.undo(), 6);
        Due.is("17: he is on", g.ofBoy(1, 2), 1);
        Due.is("17: nail taken back", g.undo(), 5);
        Due.is("17: shift", g.ofHorse(1, 1), 0);
        Due.is("17: oil taken back", g.undo(), 4);
        Due.is("17: oil", g.is(3), 9);
        Due.is("17: wear", g.ofHorse(0, 2), 2);
        Due.is("17: a minute taken back", g.undo(), 3);
        Due.is("17: wear", g.ofHorse(0, 2), 1);
        Due.is("17: tired", g.ofBoy(0, 1), 1);
        Due.is("17: snow", g.is(1), 0);
        Due.is("17: the slide stands", g.book(-1, 0), 1);
        Due.is("17: a minute taken back", g.undo(), 2);
        Due.is("17: no slide", g.book(-1, 0), 0);
        Due.is("17: minute", g.is(0), 0);
        Due.is("17: mount taken back", g.undo(), 1);
        Due.is("17: mount taken back", g.undo(), 0);
        Due.is("17: on none", g.ofBoy(0, 2), -1);
        Due.is("17: none any more", g.undo(), -1);
        Due.is("17: limit stays", g.is(2), 5);
        Due.is("17: horses stay", g.about(0), 2);
    }

    private static void undoWhatWasTold() {
        RockingGuard g = guard(1, 3);
        g.nail(0, 2);
        g.horse(5, 4);
        g.boy(7);
        g.nail(1, 1);
        g.mount(1, 1);
        g.minute(2);
        g.horse(6, 5);
        for (int i = 4; i >= 0; i--) Due.is("17: undo", g.undo(), i);
        Due.is("17: three horses", g.about(0), 3);
        Due.is("17: two boys", g.about(1), 2);
        Due.is("17: one told ahead of it", g.ofHorse(0, 1), 0);
        Due.is("17: one told since is as told", g.ofHorse(1, 1), 4);
        Due.is("17: one told since is as told", g.ofHorse(1, 2), 0);
        Due.is("17: one told since is as told", g.ofHorse(2, 1), 5);
        Due.is("17: a boy told since is as told", g.ofBoy(1, 2), -1);
        Due.is("17: a boy told since is as told", g.ofBoy(1, 1), 0);
    }

    private static void undoThirty() {
        RockingGuard g = guard(0, 9);
        for (int i = 1; i <= 35; i++) g.nail(0, i % 9);
        Due.is("17: thirty", g.about(4), 30);
        for (int i = 29; i >= 0; i--) {
            Due.is("17: undo", g.undo(), i);
            Due.is("17: shift", g.ofHorse(0, 1), (i + 5) % 9);
        }
        Due.is("17: none", g.undo(), -1);
        Due.is("17: the first five stay", g.ofHorse(0, 1), 5);
        g.nail(0, 7);
        Due.is("17: one", g.undo(), 0);
        Due.is("17: shift", g.ofHorse(0, 1), 5);
    }

    private static void ofHorse() {
        RockingGuard g = guard(1, 3, 2);
        g.mount(0, 1);
        int[] want = {2, 0, 0, 0, 1, 1};
        for (int i = 0; i < 6; i++) Due.is("18: ofHorse(1, " + i + ")", g.ofHorse(1, i), want[i]);
        Due.is("18: none on it", g.ofHorse(0, 3), -1);
        Due.is("18: due, but without a boy", g.ofHorse(0, 4), 0);
        Due.is("18: as if it did", g.ofHorse(0, 5), 1);
        g.minute(1);
        Due.is("18: not due", g.ofHorse(1, 4), 0);
        Due.is("18: wear", g.ofHorse(1, 2), 1);
        for (int n : new int[] {-1, 6, Integer.MAX_VALUE, Integer.MIN_VALUE}) Due.is("18: ofHorse(0, " + n + ")", g.ofHorse(0, n), -2);
        for (int n : OUTSIDE) Due.is("18: ofHorse(" + n + ", 0)", g.ofHorse(n, 0), -2);
        Due.is("18: not told", g.ofHorse(2, 0), -2);
    }

    private static void ofBoy() {
        RockingGuard g = guard(2, 1);
        g.mount(1, 0);
        g.minute(2);
        int[] want = {5, 2, 0, 1};
        for (int i = 0; i < 4; i++) Due.is("19: ofBoy(1, " + i + ")", g.ofBoy(1, i), want[i]);
        Due.is("19: on none", g.ofBoy(0, 2), -1);
        Due.is("19: tires of one on none", g.ofBoy(0, 3), 0);
        for (int n : new int[] {-1, 4, Integer.MAX_VALUE, Integer.MIN_VALUE}) Due.is("19: ofBoy(0, " + n + ")", g.ofBoy(0, n), -2);
        for (int n : OUTSIDE) Due.is("19: ofBoy(" + n + ", 0)", g.ofBoy(n, 0), -2);
        Due.is("19: not told", g.ofBoy(2, 0), -2);
    }

    private static void ofAll() {
        RockingGuard g = guard(2, 1, 1);
        g.limit(4);
        g.mount(0, 0);
        g.mount(1, 1);
        g.minute(3);
        g.oil(0);
        int[] want = {3, 6, 4, 8, 151, 16, 2};
        for (int i = 0; i < 7; i++) Due.is("20: is(" + i + ")", g.is(i), want[i]);
        for (int n : new int[] {-1, 7, Integer.MAX_VALUE, Integer.MIN_VALUE}) Due.is("20: is(" + n + ")", g.is(n), -2);
    }

    private static void rocking() {
        RockingGuard g = guard(2, 2, 3, 1);
        g.mount(0, 0);
        g.mount(1, 1);
        g.nail(1, 2);
        int[] want = {1, 0, 3, 0, 1, 2, 1, 0, 3};
        for (int m = 0; m < want.length; m++) Due.is("22: rocking(" + m + ")", g.rocking(m), want[m]);
        Due.is("22: rocking(9998)", g.rocking(9998), 3);
        Due.is("22: rocking(9999)", g.rocking(9999), 0);
        for (int n : new int[] {-1, 10000, Integer.MAX_VALUE, Integer.MIN_VALUE}) Due.is("22: rocking(" + n + ")", g.rocking(n), -1);
        Due.rule(g, "wears 9;tires 0;");
        g.minute(21);
        Due.is("22: worn", g.ofHorse(0, 2), 99);
        Due.is("22: one that is worn out", g.rocking(2), 2);
    }
}
