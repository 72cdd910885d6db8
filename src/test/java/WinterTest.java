/** Promises 33 to 48: odds, ropes, oil, what is seen, the book, and the image. */
public final class WinterTest {
    public static void main(String[] args) {
        below();
        gale();
        ropes();
        hauls();
        oilings();
        show();
        counted();
        whose();
        slid();
        inStep();
        tiredest();
        veterans();
        lonely();
        image();
        imageOfLists();
        about();
        Due.close();
    }

    private static final int[] WILD = {-1, -2, 100, Integer.MAX_VALUE, Integer.MIN_VALUE};

    private static void belowIs(int r, int k, int t, long upper, long lower) {
        RockingGuard g = new RockingGuard();
        String call = "33: below(" + r + ", " + k + ", " + t + ")";
        Due.is(call + " upper", g.below(r, k, t, false), upper);
        Due.is(call + " lower", g.below(r, k, t, true), lower);
    }

    private static void below() {
        belowIs(5, 9, 9, 1, 1);
        belowIs(5, 0, 0, 512, 1023);
        belowIs(5, 0, 9, 1, 1023);
        // Eight seen: eight real ones by 9^8 of 10^8, nine by 9 * 9^8 * 1 of 10^9: 10 to 9.
        belowIs(9, 8, 8, 10, 19);
        belowIs(9, 8, 9, 9, 19);
        belowIs(1, 8, 8, 10, 91);
        belowIs(1, 8, 9, 81, 91);
        // Seven seen by 9 of 10: 100 to 8 * 10 to 36.
        belowIs(9, 7, 7, 25, 54);
        belowIs(9, 7, 8, 10, 27);
        belowIs(9, 7, 9, 1, 6);
        belowIs(3, 5, 4, 0, 1);
        belowIs(3, 9, 0, 0, 1);
        RockingGuard g = new RockingGuard();
        for (int n : new int[] {0, 10, -1, Integer.MAX_VALUE, Integer.MIN_VALUE}) Due.is("33: below(" + n + ", 0, 0)", g.below(n, 0, 0, true), -1);
        for (int n : new int[] {10, -1, Integer.MAX_VALUE, Integer.MIN_VALUE}) {
            Due.is("33: below(1, " + n + ", 0)", g.below(1, n, 0, false), -1);
            Due.is("33: below(1, 0, " + n + ")", g.below(1, 0, n, true), -1);
        }
    }

    private static void galeIs(RockingGuard g, int set, int over, int k, long upper, long lower) {
        String call = "34: gale(" + set + ", " + over + ", " + k + ")";
        Due.is(call + " upper", g.gale(set, over, k, false), upper);
        Due.is(call + " lower", g.gale(set, over, k, true), lower);
    }

    private static void gale() {
        RockingGuard g = new RockingGuard();
        galeIs(g, 0, 5, 0, 1, 1);
        galeIs(g, 0, 5, 1, 0, 1);
        for (int i = 0; i < 7; i++) g.horse(2, 0);
        galeIs(g, 64, 3, 1, 7, 10);
        galeIs(g, 5, 3, 2, 49, 100);
        galeIs(g, 5, 3, 1, 91, 100);
        galeIs(g, 5, 3, 0, 1, 1);
        galeIs(g, 5, 3, 3, 0, 1);
        galeIs(g, 7, 5, 2, 1, 2);
        galeIs(g, 127, 0, 7, 1, 1);
        galeIs(g, 127, 0, 8, 0, 1);
        galeIs(g, 127, 10, 1, 0, 1);
        galeIs(g, 127, 10, 0, 1, 1);
        galeIs(g, 127, 9, 7, 1, 10000000);
        Due.is("34: one not told", g.gale(128, 5, 0, true), -1);
        for (int n : new int[] {-1, 11, Integer.MAX_VALUE, Integer.MIN_VALUE}) Due.is("34: gale(1, " + n + ", 0)", g.gale(1, n, 0, true), -1);
        for (int n : new int[] {-1, 9, Integer.MAX_VALUE, Integer.MIN_VALUE}) Due.is("34: gale(1, 5, " + n + ")", g.gale(1, 5, n, false), -1);
        for (int n : new int[] {-1, 256, Integer.MAX_VALUE, Integer.MIN_VALUE}) Due.is("34: gale(" + n + ", 5, 0)", g.gale(n, 5, 0, false), -1);
        g.horse(2, 0);
        galeIs(g, 255, 9, 8, 1, 100000000);
        galeIs(g, 255, 1, 8, 43046721, 100000000);
    }

    private static void ropes() {
        RockingGuard g = new RockingGuard();
        Due.is("35: no horses", g.ropes(8), 0);
        for (int i = 0; i < 5; i++) g.horse(1, 0);
        for (int i = 0; i < 5; i++) g.boy(5);
        g.mount(0, 0);
        g.minute(1);
        Due.is("35: WEAR 1 is enough", g.ropes(1), 1);
        Due.is("35: WEAR 1 is enough", g.ropes(3), 1);
        g.undo();
        g.undo();
        Due.rule(g, "wears if horse=1 or horse=3 then 5 else if horse=2 then 7 else horse end end;tires 0;");
        g.limit(8);
        for (int i = 0; i < 5; i++) g.mount(i, i);
        g.minute(1);
        // WEAR 0, 5, 7, 5, 4.
        int[] want = {0, 4, 6, 14, 30, 30, 30, 30, 30};
        for (int n = 0; n <= 8; n++) Due.is("35: ropes(" + n + ")", g.ropes(n), want[n]);
        g.off(2);
        Due.is("35: one without a boy", g.ropes(1), 2);
        Due.is("35: one without a boy", g.ropes(8), 26);
        for (int n : new int[] {-1, 9, Integer.MAX_VALUE, Integer.MIN_VALUE}) Due.is("35: ropes(" + n + ")", g.ropes(n), -1);
    }

    private static void hauls() {
        RockingGuard g = new RockingGuard();
        for (int n : new int[] {-2, 99, Integer.MAX_VALUE, Integer.MIN_VALUE}) Due.is("36: haul(" + n + ")", g.haul(n), -2);
        for (int i = 1; i <= 8; i++) Due.is("36: haul", g.haul(i == 1 ? 0 : 98), i);
        Due.is("36: a ninth", g.haul(1), -2);
        Due.is("36: eight", g.about(7), 8);
        Due.is("36: none any more", g.haul(-1), 0);
        Due.is("36: none", g.about(7), 0);
        Due.is("36: a first", g.haul(1), 1);
    }

    private static void oilingsAre(int w, int many, int days, int... hauls) {
        RockingGuard g = new RockingGuard();
        for (int h : hauls) g.haul(h);
        Due.is("37: how many of " + hauls.length + " from " + w, g.oilings(w, false), many);
        Due.is("37: days of " + hauls.length + " from " + w, g.oilings(w, true), days);
    }

    private static void oilings() {
        oilingsAre(0, 0, 0);
        oilingsAre(98, 0, 0);
        oilingsAre(98, 0, 0, 0, 0, 0);
        oilingsAre(98, 1, 4, 0, 0, 1);
        oilingsAre(0, 0, 0, 98);
        oilingsAre(1, 1, 1, 98);
        oilingsAre(0, 0, 0, 50, 48);
        oilingsAre(0, 1, 2, 50, 49);
        oilingsAre(20, 2, 6, 50, 40, 60);
        oilingsAre(0, 1, 4, 50, 40, 60);
        // One oiling ahead of day 2 or 3 would serve: the later.
        oilingsAre(0, 1, 8, 10, 30, 30, 40);
        // The first as late as can be (day 2) makes a second one needful at day 4, which may be no later.
        oilingsAre(0, 2, 20, 40, 40, 40, 40, 40, 40);
        oilingsAre(0, 7, 254, 98, 98, 98, 98, 98, 98, 98, 98);
        oilingsAre(98, 8, 255, 98, 98, 98, 98, 98, 98, 98, 98);
        RockingGuard g = new RockingGuard();
        g.haul(5);
        for (int n : new int[] {-1, 99, Integer.MAX_VALUE, Integer.MIN_VALUE}) {
            Due.is("37: oilings(" + n + ", false)", g.oilings(n, false), -1);
            Due.is("37: oilings(" + n + ", true)", g.oilings(n, true), -1);
        }
        Due.is("37: nothing is changed", g.about(7), 1);
    }

    private static void show() {
        RockingGuard g = new RockingGuard();
        Due.is("38: none is enough", g.show(0), 0);
        Due.is("38: none there", g.show(8), -1);
        for (int i = 0; i < 4; i++) g.horse(9, 8);
        g.boy(5);
        g.boy(5);
        g.boy(5);
        g.mount(0, 1);
        g.mount(1, 3);
        g.mount(2, 0);
        Due.is("38: one, due or not", g.show(8), 1);
        Due.is("38: two", g.show(16), 3);
        Due.is("38: three", g.show(24), 11);
        Due.is("38: four", g.show(32), -1);
        Due.is("38: no such", g.show(9), -1);
        g.off(2);
        Due.is("38: with a boy alone", g.show(8), 2);
        Due.rule(g, "seen if rocking<1 then 9 else 40+minute end;");
        Due.is("38: by the text", g.show(9), 0);
        Due.is("38: by the text the fewest", g.show(40), 2);
        g.minute(3);
        Due.is("38: minute as now", g.show(43), 2);
        Due.is("38: minute as now", g.show(40), -1);
        Due.rule(g, "seen 200;");
        Due.is("38: 99 at most", g.show(99), 0);
        for (int n : WILD) Due.is("38: show(" + n + ")", g.show(n), -1);
        RockingGuard worn = new RockingGuard();
        worn.horse(1, 0);
        worn.horse(9, 8);
        worn.boy(5);
        worn.boy(5);
        Due.rule(worn, "wears 9;tires 0;");
        worn.mount(0, 0);
        worn.mount(1, 1);
        worn.minute(10);
        Due.is("38: wear 90", worn.show(8), 1);
        worn.minute(1);
        Due.is("38: wear 99", worn.show(8), 2);
    }

    private static void counted() {
        RockingGuard g = new RockingGuard();
        for (int n : new int[] {-2, 9, Integer.MAX_VALUE, Integer.MIN_VALUE}) Due.is("39: counted(" + n + ", 1)", g.counted(n, 1), -2);
        for (int n : WILD) Due.is("39: counted(1, " + n + ")", g.counted(1, n), -2);
        for (int i = 1; i <= 8; i++) Due.is("39: counted", g.counted(i == 1 ? 0 : 8, i == 1 ? 0 : 99), i);
        Due.is("39: a ninth", g.counted(1, 1), -2);
        Due.is("39: eight", g.about(8), 8);
        Due.is("39: none any more", g.counted(-1, 400), 0);
        Due.is("39: none", g.about(8), 0);
        Due.is("39: a first", g.counted(1, 1), 1);
    }

    private static void whose() {
        RockingGuard g = new RockingGuard();
        Due.is("40: no texts", g.whose(), 0);
        Due.text(g, "seen rocking*9;");
        Due.text(g, "wears 3;");
        Due.text(g, "seen rocking*8+snow+minute;");
        Due.is("40: nothing counted", g.whose(), 7);
        g.counted(0, 0);
        Due.is("40: all", g.whose(), 7);
        g.counted(2, 16);
        Due.is("40: 8 times without a law", g.whose(), 6);
        g.minute(1);
        Due.is("40: minute as now", g.whose(), 2);
        g.counted(2, 18);
        Due.is("40: none", g.whose(), 0);
        g.counted(-1, 0);
        g.counted(2, 18);
        Due.is("40: the first", g.whose(), 1);
        g.counted(-1, 0);
        g.counted(2, 17);
        Due.is("40: the third", g.whose(), 4);
        Due.text(g, "seen 17;");
        Due.is("40: two of them", g.whose(), 12);
        Due.is("40: none rules by it", g.about(3), -1);
    }

    private static void slid() {
        RockingGuard g = new RockingGuard();
        Due.is("41: none", g.slid(-1), 0);
        Due.is("41: no horses", g.slid(0), -2);
        g.horse(1, 0);
        g.horse(2, 0);
        g.horse(3, 0);
        g.boy(1);
        g.boy(2);
        g.limit(2);
        g.mount(0, 0);
        g.mount(1, 1);
        g.minute(5);
        // Slides at 0, 2, 4 of 2, 3 and 3.
        Due.is("41: snow", g.slid(-1), 8);
        Due.is("41: horse 0", g.slid(0), 3);
        Due.is("41: horse 1", g.slid(1), 3);
        Due.is("41: horse 2", g.slid(2), 0);
        g.limit(1);
        g.minute(1);
        Due.is("41: snow", g.slid(-1), 9);
        Due.is("41: horse 0", g.slid(0), 4);
        Due.is("41: horse 1", g.slid(1), 3);
        for (int n : new int[] {3, 8, -2, Integer.MAX_VALUE, Integer.MIN_VALUE}) Due.is("41: slid(" + n + ")", g.slid(n), -2);
    }

    private static void inStep() {
        RockingGuard g = new RockingGuard();
        Due.is("42: none", g.inStep(), 0);
        g.horse(4, 1);
        Due.is("42: one alone", g.inStep(), 0);
        g.horse(2, 1);
        g.horse(4, 1);
        Due.is("42: two", g.inStep(), 5);
        g.horse(2, 0);
        Due.is("42: another shift", g.inStep(), 5);
        g.nail(3, 1);
        Due.is("42: nailed", g.inStep(), 15);
        g.horse(4, 1);
        Due.is("42: three", g.inStep(), 31);
    }

    private static void tiredest() {
        RockingGuard g = new RockingGuard();
        Due.is("43: none", g.tiredest(), -1);
        g.boy(1);
        g.boy(2);
        g.boy(3);
        Due.is("43: the lowest at 0", g.tiredest(), 0);
        g.horse(1, 0);
        g.horse(1, 0);
        g.mount(2, 0);
        g.minute(1);
        Due.is("43: he who rides", g.tiredest(), 2);
        g.mount(1, 1);
        g.off(2);
        g.minute(1);
        Due.is("43: 0, 1, 0", g.tiredest(), 1);
        g.mount(2, 0);
        g.off(1);
        g.minute(1);
        Due.is("43: 0, 0, 1", g.tiredest(), 2);
        g.mount(1, 1);
        g.off(2);
        g.mount(0, 0);
        g.minute(1);
        Due.is("43: 1, 1, 0: of like ones the lowest", g.tiredest(), 0);
    }

    private static void veterans() {
        RockingGuard g = new RockingGuard();
        Due.is("44: none", g.veterans(1), 0);
        for (int size : new int[] {9, 1, 5, 6, 5, 4}) g.boy(size);
        Due.is("44: all", g.veterans(1), 63);
        Due.is("44: 5 or more", g.veterans(5), 29);
        Due.is("44: 9", g.veterans(9), 1);
        Due.is("44: 7", g.veterans(7), 1);
        for (int n : new int[] {0, 10, -1, Integer.MAX_VALUE, Integer.MIN_VALUE}) Due.is("44: veterans(" + n + ")", g.veterans(n), -1);
    }

    private static void lonely() {
        RockingGuard g = new RockingGuard();
        Due.is("45: none", g.lonely(), -1);
        g.horse(2, 0);
        Due.is("45: one alone", g.lonely(), 0);
        g.horse(4, 0);
        Due.is("45: none", g.lonely(), -1);
        g.horse(4, 1);
        Due.is("45: the odd one", g.lonely(), 2);
        g.horse(6, 3);
        Due.is("45: 9 is of both", g.lonely(), -1);
        g.nail(3, 5);
        Due.is("45: 5 is of both", g.lonely(), -1);
        g.nail(1, 2);
        g.nail(2, 0);
        Due.is("45: 5, 11 .. are of none else", g.lonely(), 3);
        // BEAT 9 and 8 are due together at 64 (1 mod 9, 0 mod 8), then at 136.
        RockingGuard far = new RockingGuard();
        far.horse(9, 1);
        far.horse(8, 0);
        Due.is("45: 64 is not among 0 .. 59", far.lonely(), 0);
        far.minute(4);
        Due.is("45: nor among 4 .. 63", far.lonely(), 0);
        far.minute(1);
        Due.is("45: but among 5 .. 64", far.lonely(), -1);
        far.minute(59);
        Due.is("45: this one, too", far.lonely(), -1);
        far.minute(1);
        Due.is("45: past it", far.lonely(), 0);
    }

    private static void image() {
        RockingGuard g = new RockingGuard();
        g.horse(3, 1);
        g.horse(1, 0);
        g.boy(4);
        g.limit(1);
        g.mount(0, 1);
        g.minute(3);
        Due.rule(g, "seen 7;");
        Due.is("46: minute", g.image(), 3);
        g.undo();
        g.undo();
        g.nail(0, 2);
        g.horse(5, 4);
        g.boy(9);
        g.limit(6);
        g.oil(1);
        g.winters(5, 20);
        Due.text(g, "seen 9;");
        g.by(1);
        g.feed(1, 2, 3, 4, 5);
        for (int twice = 0; twice < 2; twice++) {
            Due.is("47: minute", g.back(), 3);
            int[] about = {2, 1, 1, 0, 4, 0, 0, 0, 0, 20};
            for (int i = 0; i < about.length; i++) Due.is("47: about(" + i + ")", g.about(i), about[i]);
            int[] is = {3, 0, 1, 9, 151, 7, 1};
            for (int i = 0; i < is.length; i++) Due.is("47: is(" + i + ")", g.is(i), is[i]);
            Due.is("47: shift", g.ofHorse(0, 1), 1);
            Due.is("47: wear", g.ofHorse(1, 2), 3);
            Due.is("47: tired", g.ofBoy(0, 1), 3);
            Due.is("47: seat", g.ofBoy(0, 2), 1);
            Due.is("47: book", g.book(-1, 0), 3);
            Due.is("47: steps, too", g.undo(), 3);
            Due.is("47: steps, too", g.is(0), 2);
            Due.is("47: the book of it", g.book(-1, 0), 2);
            Due.is("47: it stays, whatever is told", g.horse(9, 8), 2);
            g.minute(30);
        }
        g.back();
        Due.is("47: the next text", Due.text(g, "seen 12;"), 1);
        Due.is("47: it is that", g.by(1), true);
        Due.is("47: it is that", g.is(5), 12);
    }

    private static void imageOfLists() {
        RockingGuard g = new RockingGuard();
        g.horse(2, 0);
        g.boy(5);
        g.heard(0, 1);
        g.watch(0, 5, 5);
        g.haul(98);
        g.haul(98);
        g.counted(1, 8);
        Due.text(g, "boy 1;");
        g.image();
        g.horse(2, 1);
        g.heard(-1, 0);
        g.heard(1, 0);
        g.watch(-1, 0, 0);
        g.watch(0, 1, 4);
        g.haul(-1);
        g.haul(1);
        g.haul(1);
        g.counted(-1, 0);
        g.counted(2, 9);
        g.by(0);
        g.back();
        Due.is("47: heard", g.about(5), 1);
        Due.is("47: heard", g.rode(1), 1);
        Due.is("47: watches", g.about(6), 1);
        Due.is("47: watches", g.manned(0), 0);
        Due.is("47: hauls", g.about(7), 2);
        Due.is("47: hauls", g.oilings(0, true), 2);
        Due.is("47: counted", g.about(8), 1);
        Due.is("47: counted", g.whose(), 1);
        Due.is("47: none rules", g.about(3), -1);
    }

    private static void about() {
        RockingGuard g = new RockingGuard();
        g.horse(2, 0);
        g.horse(2, 0);
        g.boy(3);
        Due.rule(g, "wears 1;");
        Due.text(g, "wears 1;");
        Due.text(g, "wears 1;");
        g.minute(4);
        for (int i = 0; i < 5; i++) g.heard(i, 1);
        for (int i = 0; i < 6; i++) g.watch(0, 1, 1);
        for (int i = 0; i < 7; i++) g.haul(1);
        for (int i = 0; i < 8; i++) g.counted(1, 1);
        g.feed(0, 0, 0, 0, 0);
        int[] want = {2, 1, 3, 0, 4, 5, 6, 7, 8, 20};
        for (int i = 0; i < want.length; i++) Due.is("48: about(" + i + ")", g.about(i), want[i]);
        for (int n : new int[] {-1, 10, Integer.MAX_VALUE, Integer.MIN_VALUE}) Due.is("48: about(" + n + ")", g.about(n), -2);
    }
}
