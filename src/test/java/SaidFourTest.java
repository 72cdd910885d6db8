/** Parts IV and V of the document's Terms (watches, odds, oil, laws, the book; winters and the image), sentence by sentence. */
public final class SaidFourTest {
    public static void main(String[] args) {
        Said.runAll(SaidFourTest.class, "IV", "V");
    }

    // ==== WATCHES

    static void watchesAreSix() {
        Said.at("IV", "WATCHES 0 .. 5 (told: a HORSE, SIZES from a to b that may ride it then):");
        RockingGuard g = Scene.horses(2);
        Due.is("a HORSE that isn't told", g.watch(1, 1, 9), -2);
        Due.is("from 0", g.watch(0, 0, 9), -2);
        Due.is("to 10", g.watch(0, 1, 10), -2);
        Due.is("from 5 to 4", g.watch(0, 5, 4), -2);
        Due.is("none of these", g.about(6), 0);
        Due.is("from 1 to 9", g.watch(0, 1, 9), 1);
        Due.is("from 9 to 9", g.watch(0, 9, 9), 2);
        Due.is("from 1 to 1", g.watch(0, 1, 1), 3);
        for (int i = 4; i <= 6; i++) Due.is("watch", g.watch(0, 3, 4), i);
        Due.is("a seventh", g.watch(0, 3, 4), -2);
        Due.is("six", g.about(6), 6);
        Due.is("number 6", g.manned(6), -2);
        Due.is("number 5", g.manned(5), -1);
    }

    static void watchesBySize() {
        Said.at("IV", "SIZES from a to b that may ride it then):");
        int[] who = {-1, 0, 0, 0, -1};
        for (int size = 3; size <= 7; size++) {
            RockingGuard g = Scene.horses(2);
            g.boy(size);
            g.watch(0, 4, 6);
            Due.is("SIZE " + size + " for 4 .. 6", g.manned(0), who[size - 3]);
        }
    }

    static void mannedMost() {
        Said.at("IV", "MANNED: the most WATCHES that have a boy each, no boy in two;");
        RockingGuard g = Scene.horses(2);
        g.boy(5);
        g.boy(8);
        g.watch(0, 1, 9);
        g.watch(0, 4, 6);
        // Boy 0 fits both, and must leave the first to boy 1.
        Due.is("two", g.manned(-1), 2);
        Due.is("the first", g.manned(0), 1);
        Due.is("the second", g.manned(1), 0);
        g.watch(0, 5, 5);
        Due.is("no boy in two", g.manned(-1), 2);
        Due.is("the third has none", g.manned(2), -1);
        RockingGuard none = Scene.horses(2);
        Due.is("no WATCHES", none.manned(-1), 0);
        none.watch(0, 1, 9);
        Due.is("no boys", none.manned(-1), 0);
        RockingGuard full = Scene.horses(2);
        for (int i = 0; i < 6; i++) full.boy(5);
        for (int i = 0; i < 6; i++) full.watch(0, 5, 5);
        Due.is("six", full.manned(-1), 6);
        // A watch that must stay without a boy is no hindrance to those behind it.
        RockingGuard gap = Scene.horses(2);
        gap.boy(5);
        gap.boy(7);
        gap.watch(0, 5, 5);
        gap.watch(0, 5, 5);
        gap.watch(0, 7, 7);
        Due.is("two of three", gap.manned(-1), 2);
        Due.is("the first", gap.manned(0), 0);
        Due.is("the second has none", gap.manned(1), -1);
        Due.is("the third", gap.manned(2), 1);
        gap.watch(-1, 0, 0);
        gap.watch(0, 1, 1);
        gap.watch(0, 9, 9);
        gap.watch(0, 4, 6);
        Due.is("one of three", gap.manned(-1), 1);
        Due.is("none fits the first", gap.manned(0), -1);
        Due.is("none fits the second", gap.manned(1), -1);
        Due.is("boy 0 the third", gap.manned(2), 0);
        gap.watch(-1, 0, 0);
        gap.watch(0, 5, 5);
        gap.watch(0, 7, 7);
        Due.is("two of two", gap.manned(-1), 2);
        gap.watch(-1, 0, 0);
        gap.watch(0, 5, 5);
        Due.is("one of one, whatever was asked before", gap.manned(-1), 1);
        gap.watch(-1, 0, 0);
        Due.is("none of none", gap.manned(-1), 0);
    }

    static void mannedLowest() {
        Said.at("IV", "of like ones watch by watch the lowest boy (one behind all boys): how many, who the i-th has (NONE).");
        RockingGuard g = Scene.horses(2);
        for (int i = 0; i < 3; i++) g.boy(5);
        g.watch(0, 5, 5);
        g.watch(0, 5, 5);
        Due.is("the lowest for the first", g.manned(0), 0);
        Due.is("the next for the second", g.manned(1), 1);
        // One boy for one of two WATCHES: the first rather has him than none, who is behind all boys.
        RockingGuard one = Scene.horses(2);
        one.boy(5);
        one.watch(0, 5, 5);
        one.watch(0, 5, 5);
        Due.is("he", one.manned(0), 0);
        Due.is("none", one.manned(1), -1);
        Due.is("how many", one.manned(-1), 1);
        Due.is("none such", one.manned(2), -2);
        // The highest boy is ahead of none, too.
        RockingGuard last = Scene.horses(2);
        for (int i = 0; i < 5; i++) last.boy(1);
        last.boy(9);
        last.watch(0, 9, 9);
        last.watch(0, 9, 9);
        Due.is("boy 5", last.manned(0), 5);
        Due.is("none", last.manned(1), -1);
    }

    // ==== ODDS

    private static void below(int r, int k, int t, long upper, long lower) {
        RockingGuard g = new RockingGuard();
        Due.is("upper of below(" + r + ", " + k + ", " + t + ")", g.below(r, k, t, false), upper);
        Due.is("lower of below(" + r + ", " + k + ", " + t + ")", g.below(r, k, t, true), lower);
    }

    static void belowAtFirst() {
        Said.at("IV", "BELOW: at first it is as likely that there are 0, 1, .. or 9 real ones;");
        // Each is seen by 9 of 10 and none was: by 0 real ones 1, by t of them 1 of 10^t.
        below(9, 0, 0, 1000000000L, 1111111111L);
        below(9, 0, 9, 1, 1111111111L);
        below(5, 0, 0, 512, 1023);
        below(5, 0, 9, 1, 1023);
    }

    static void belowByTen() {
        Said.at("IV", "they see each by r (1 .. 9) of 10: having seen just k (0 .. 9):");
        // By 1 of 10, none seen: 10^9 of 10^10 - 9^10, which is more than an int holds.
        below(1, 0, 0, 1000000000L, 6513215599L);
        below(1, 0, 9, 387420489L, 6513215599L);
        below(9, 8, 8, 10, 19);
        below(9, 8, 9, 9, 19);
        below(1, 9, 9, 1, 1);
        below(9, 9, 9, 1, 1);
        RockingGuard g = new RockingGuard();
        Due.is("r 0", g.below(0, 0, 0, true), -1);
        Due.is("r 10", g.below(10, 0, 0, true), -1);
        Due.is("k -1", g.below(5, -1, 0, true), -1);
        Due.is("k 10", g.below(5, 10, 9, true), -1);
    }

    static void belowOdds() {
        Said.at("IV", "ODDS that there are t (0 .. 9), in lowest terms.");
        below(5, 9, 9, 1, 1);
        below(5, 9, 8, 0, 1);
        below(5, 1, 0, 0, 1);
        // Eight seen by 5 of 10: 2 of 2^9 to 9 of 2^9.
        below(5, 8, 8, 2, 11);
        below(5, 8, 9, 9, 11);
        RockingGuard g = new RockingGuard();
        Due.is("t -1", g.below(5, 0, -1, true), -1);
        Due.is("t 10", g.below(5, 0, 10, false), -1);
    }

    private static void gale(RockingGuard g, int set, int over, int k, long upper, long lower) {
        Due.is("upper of gale(" + set + ", " + over + ", " + k + ")", g.gale(set, over, k, false), upper);
        Due.is("lower of gale(" + set + ", " + over + ", " + k + ")", g.gale(set, over, k, true), lower);
    }

    static void galeByTen() {
        Said.at("IV", "A GALE: each HORSE of a set goes over by g (0 .. 10) of 10:");
        RockingGuard g = Scene.horses(1, 1, 1);
        gale(g, 4, 3, 1, 7, 10);
        gale(g, 7, 0, 3, 1, 1);
        gale(g, 7, 10, 1, 0, 1);
        gale(g, 7, 10, 0, 1, 1);
        gale(g, 7, 9, 3, 1, 1000);
        Due.is("g -1", g.gale(7, -1, 1, true), -1);
        Due.is("g 11", g.gale(7, 11, 1, true), -1);
        Due.is("one that isn't told", g.gale(8, 5, 1, true), -1);
    }

    static void galeOdds() {
        Said.at("IV", "ODDS that k or more of it stay, in lowest terms.");
        RockingGuard g = Scene.horses(1, 1, 1, 1, 1, 1, 1, 1);
        gale(g, 255, 5, 4, 163, 256);
        gale(g, 255, 5, 0, 1, 1);
        gale(g, 255, 5, 8, 1, 256);
        gale(g, 15, 5, 5, 0, 1);
        gale(g, 15, 5, 4, 1, 16);
        gale(g, 0, 5, 0, 1, 1);
        gale(g, 0, 5, 1, 0, 1);
        gale(g, 255, 9, 8, 1, 100000000);
        gale(g, 255, 2, 8, 65536, 390625);
        Due.is("k -1", g.gale(255, 5, -1, true), -1);
        Due.is("k 9", g.gale(255, 5, 9, true), -1);
    }

    // ==== ROPES

    /** Six ridden horses whose WEAR is this behind a MINUTE. */
    private static RockingGuard wearing(int a, int b, int c, int d, int e, int f) {
        RockingGuard g = Scene.ridden(1, 1, 1, 1, 1, 1);
        int[] wear = {a, b, c, d, e, f};
        StringBuilder law = new StringBuilder("tires 0;wears ");
        for (int h = 0; h < 5; h++) law.append("if horse=").append(h).append(" then ").append(wear[h]).append(" else ");
        law.append(wear[5]).append(" end end end end end;");
        Due.rule(g, law.toString());
        g.minute(1);
        return g;
    }

    static void ropesForThoseWithABoy() {
        Said.at("IV", "ROPES: n (0 .. 8) ropes, one for a HORSE that has a boy at most;");
        RockingGuard g = wearing(1, 2, 3, 4, 5, 6);
        Due.is("ropes(-1)", g.ropes(-1), -1);
        Due.is("ropes(0)", g.ropes(0), 0);
        Due.is("ropes(1)", g.ropes(1), 32);
        Due.is("ropes(2)", g.ropes(2), 48);
        Due.is("ropes(6)", g.ropes(6), 63);
        Due.is("ropes(8)", g.ropes(8), 63);
        Due.is("ropes(9)", g.ropes(9), -1);
        g.off(5);
        Due.is("one without a boy has none", g.ropes(1), 16);
        Due.is("nor of eight", g.ropes(8), 31);
        Due.is("no HORSES", new RockingGuard().ropes(8), 0);
    }

    static void ropesLeastLost() {
        Said.at("IV", "each without one is lost by WEAR of 100: the set of HORSES (bits) by which least is lost on the mean;");
        RockingGuard g = wearing(3, 9, 1, 8, 2, 7);
        Due.is("ropes(1)", g.ropes(1), 2);
        Due.is("ropes(2)", g.ropes(2), 10);
        Due.is("ropes(3)", g.ropes(3), 42);
        Due.is("ropes(4)", g.ropes(4), 43);
        g.off(1);
        Due.is("the worst has no boy: ropes(1)", g.ropes(1), 8);
        Due.is("the worst has no boy: ropes(2)", g.ropes(2), 40);
        Due.is("WEAR 99", Scene.worn(99).ropes(1), 1);
    }

    static void ropesFewestThenLowest() {
        Said.at("IV", "of like ones the fewest, then the lowest set.");
        RockingGuard none = wearing(0, 0, 0, 0, 0, 0);
        Due.is("no WEAR, no ropes", none.ropes(8), 0);
        RockingGuard some = wearing(0, 4, 0, 4, 4, 0);
        Due.is("none for WEAR 0", some.ropes(8), 26);
        Due.is("WEAR 1 is enough", wearing(0, 0, 1, 0, 0, 0).ropes(8), 4);
        Due.is("the lowest of three", some.ropes(1), 2);
        Due.is("the lowest two", some.ropes(2), 10);
    }

    // ==== OIL FOR ALL WINTER

    private static void oilings(int w, int many, int days, int... hauls) {
        RockingGuard g = new RockingGuard();
        for (int haul : hauls) g.haul(haul);
        Due.is("oilings of " + hauls.length + " hauls from " + w, g.oilings(w, false), many);
        Due.is("days of " + hauls.length + " hauls from " + w, g.oilings(w, true), days);
    }

    static void oilFromWear() {
        Said.at("IV", "OIL FOR ALL WINTER: one HORSE of WEAR w (0 .. 98) at first;");
        oilings(0, 0, 0, 98);
        oilings(98, 1, 1, 98);
        oilings(98, 0, 0, 0);
        RockingGuard g = new RockingGuard();
        g.haul(5);
        Due.is("w -1", g.oilings(-1, false), -1);
        Due.is("w 99", g.oilings(99, false), -1);
        Due.is("w -1", g.oilings(-1, true), -1);
        Due.is("w 99", g.oilings(99, true), -1);
    }

    static void oilByHauls() {
        Said.at("IV", "HAULS (8 at most; told: 0 .. 98 each): so much WEAR comes on each day;");
        RockingGuard g = new RockingGuard();
        Due.is("haul(-2)", g.haul(-2), -2);
        Due.is("haul(99)", g.haul(99), -2);
        Due.is("none of these", g.about(7), 0);
        Due.is("haul(0)", g.haul(0), 1);
        Due.is("haul(98)", g.haul(98), 2);
        for (int i = 3; i <= 8; i++) Due.is("haul(1)", g.haul(1), i);
        Due.is("a ninth", g.haul(1), -2);
        Due.is("eight", g.about(7), 8);
        oilings(50, 0, 0);
        oilings(98, 8, 255, 98, 98, 98, 98, 98, 98, 98, 98);
        oilings(0, 7, 254, 98, 98, 98, 98, 98, 98, 98, 98);
        oilings(98, 0, 0, 0, 0, 0, 0, 0, 0, 0, 0);
        oilings(98, 1, 128, 0, 0, 0, 0, 0, 0, 0, 1);
    }

    static void oilAheadOfADay() {
        Said.at("IV", "an oiling ahead of a day takes all WEAR away: the fewest oilings by which WEAR is below 99 at each day's end;");
        oilings(48, 0, 0, 50);
        oilings(49, 1, 1, 50);
        oilings(0, 0, 0, 49, 49);
        oilings(0, 1, 2, 49, 50);
        oilings(1, 1, 2, 49, 49);
        oilings(20, 2, 6, 50, 40, 60);
    }

    static void oilAsLateAsCanBe() {
        Said.at("IV", "of like ones the first as late as can be, then the next, ..: how many, the days (bits).");
        // Oiled ahead of day 1, 2 or 3 it lasts: 3.
        oilings(0, 1, 8, 10, 30, 30, 40);
        // Of two, the first as late as can be is ahead of day 2, the second then ahead of day 4.
        oilings(0, 2, 20, 40, 40, 40, 40, 40, 40);
        // Day 0 and 2 or day 1 and 2 or 3 ..: the first rather late, whatever comes of the second.
        oilings(40, 2, 10, 40, 40, 40, 40);
        oilings(0, 2, 24, 30, 30, 30, 90, 60);
    }

    // ==== SHOW, WHOSE LAW

    static void showFewest() {
        Said.at("IV", "SHOW: the fewest HORSES (bits; with a boy on each, WEAR below 99) that should ROCK so that seen says v (0 .. 99; rocking being so many, MINUTE, SNOW as now);");
        RockingGuard g = Scene.ridden(9, 9, 9);
        g.horse(1, 0);
        g.minute(1);
        Due.is("show(-1)", g.show(-1), -1);
        Due.is("show(0)", g.show(0), 0);
        Due.is("show(8), though none is due", g.show(8), 1);
        Due.is("show(24)", g.show(24), 7);
        Due.is("show(32): the fourth has no boy", g.show(32), -1);
        Due.rule(g, "seen if rocking<2 then 99 else minute*10+snow end;");
        Due.is("show(99)", g.show(99), 0);
        Due.is("show(100)", g.show(100), -1);
        Due.is("MINUTE 1, SNOW 3", g.show(13), 3);
        RockingGuard almost = Scene.worn(98);
        Due.is("WEAR 98", almost.show(8), 1);
        RockingGuard out = Scene.worn(99);
        Due.is("WEAR 99", out.show(8), -1);
    }

    static void showLowest() {
        Said.at("IV", "of like ones the lowest set; none.");
        RockingGuard g = Scene.horses(9, 9, 9, 9);
        for (int b = 0; b < 3; b++) {
            g.boy(5);
            g.mount(b, 3 - b);
        }
        Due.is("1 of 1, 2, 3", g.show(8), 2);
        Due.is("2 of 1, 2, 3", g.show(16), 6);
        Due.is("all of 1, 2, 3", g.show(24), 14);
        Due.is("never said", g.show(9), -1);
        Due.is("no HORSES", new RockingGuard().show(8), -1);
        Due.is("no HORSES, none needed", new RockingGuard().show(0), 0);
    }

    static void whoseLaw() {
        Said.at("IV", "WHOSE LAW (told: COUNTED, 8 at most: so many rocking 0 .. 8, seen 0 .. 99): TEXTS (bits) by whose seen all are so.");
        RockingGuard g = new RockingGuard();
        Due.is("no TEXTS", g.whose(), 0);
        Due.is("rocking -2", g.counted(-2, 0), -2);
        Due.is("rocking 9", g.counted(9, 0), -2);
        Due.is("seen -1", g.counted(0, -1), -2);
        Due.is("seen 100", g.counted(0, 100), -2);
        Due.is("none of these", g.about(8), 0);
        Due.text(g, "seen rocking*8;");
        Due.text(g, "seen rocking*99;");
        Due.text(g, "wears 5;");
        Due.text(g, "seen 99-rocking;");
        Due.is("nothing COUNTED", g.whose(), 15);
        Due.is("counted(8, 64)", g.counted(8, 64), 1);
        Due.is("8 of 8, by law or without", g.whose(), 5);
        Due.is("counted(0, 99)", g.counted(0, 99), 2);
        Due.is("not all are so", g.whose(), 0);
        g.counted(-1, 0);
        g.counted(0, 99);
        Due.is("the last", g.whose(), 8);
        for (int i = 2; i <= 8; i++) Due.is("counted", g.counted(1, 98), i);
        Due.is("the last by all eight", g.whose(), 8);
        Due.is("a ninth", g.counted(1, 98), -2);
        Due.is("eight", g.about(8), 8);
    }

    // ==== BY THE BOOK

    static void bookSnow() {
        Said.at("IV", "BY THE BOOK: how much SNOW slid together;");
        RockingGuard g = Scene.ridden(1);
        Due.rule(g, "wears 0;tires 0;");
        Due.is("an empty BOOK", g.slid(-1), 0);
        g.minute(5);
        g.limit(1);
        g.minute(1);
        Due.is("six", g.slid(-1), 6);
        g.minute(29);
        Due.is("29 more", g.slid(-1), 35);
        g.minute(1);
        Due.is("the first isn't in the BOOK any more", g.slid(-1), 30);
    }

    static void bookSlides() {
        Said.at("IV", "in how many slides a HORSE rocked.");
        RockingGuard g = Scene.ridden(1, 9);
        Due.rule(g, "wears 0;tires 0;");
        g.limit(1);
        g.minute(10);
        Due.is("HORSE 0", g.slid(0), 10);
        Due.is("HORSE 1 at 0 and 9", g.slid(1), 2);
        Due.is("one that isn't told", g.slid(2), -2);
        g.minute(21);
        // 31 slides, of which the one at 0 is gone; HORSE 1 rocked at 9, 18 and 27.
        Due.is("HORSE 0", g.slid(0), 30);
        Due.is("HORSE 1", g.slid(1), 3);
    }

    static void stepOfTwo() {
        Said.at("IV", "STEP: HORSES (bits) that have the same BEAT and SHIFT as another one.");
        RockingGuard g = new RockingGuard();
        Due.is("no HORSES", g.inStep(), 0);
        g.horse(4, 1);
        Due.is("one", g.inStep(), 0);
        g.horse(4, 2);
        g.horse(8, 1);
        Due.is("the same BEAT or SHIFT alone", g.inStep(), 0);
        for (int i = 0; i < 4; i++) g.horse(9, i);
        g.horse(4, 1);
        Due.is("the first and the last of eight", g.inStep(), 129);
        g.nail(1, 1);
        Due.is("three", g.inStep(), 131);
    }

    static void tiredest() {
        Said.at("IV", "TIREDEST: the boy who is TIRED most (0, too); of like ones the lowest; none (no boy is told).");
        RockingGuard g = Scene.horses(1, 1);
        Due.is("no boy is told", g.tiredest(), -1);
        for (int i = 0; i < 6; i++) g.boy(5);
        Due.is("all are 0", g.tiredest(), 0);
        g.mount(5, 0);
        g.minute(1);
        Due.is("the last", g.tiredest(), 5);
        g.mount(3, 1);
        g.off(5);
        g.minute(1);
        Due.is("1 of 3, 0 of 5", g.tiredest(), 3);
        g.mount(4, 0);
        Due.rule(g, "tires if who=4 then 1 else 0 end;");
        g.minute(1);
        Due.is("1 of 3 and 4: the lowest", g.tiredest(), 3);
    }

    static void veterans() {
        Said.at("IV", "VETERANS: BOYS (bits) of SIZE s (1 .. 9) or more.");
        RockingGuard g = new RockingGuard();
        Due.is("no boys", g.veterans(1), 0);
        for (int size : new int[] {1, 9, 5, 4, 6, 9}) g.boy(size);
        Due.is("veterans(0)", g.veterans(0), -1);
        Due.is("veterans(1)", g.veterans(1), 63);
        Due.is("veterans(5)", g.veterans(5), 54);
        Due.is("veterans(9)", g.veterans(9), 34);
        Due.is("veterans(10)", g.veterans(10), -1);
    }

    static void lonely() {
        Said.at("IV", "LONELY: the HORSE that is never due with another told one in the next 60 MINUTES (this one, too);");
        RockingGuard g = new RockingGuard();
        g.horse(9, 1);
        g.horse(8, 0);
        // Both are due at 64 (1 mod 9, 0 mod 8), and not again up to 136.
        g.minute(4);
        Due.is("64 is behind 4 .. 63", g.lonely(), 0);
        g.minute(1);
        Due.is("64 is the 60th of 5 .. 64", g.lonely(), -1);
        Scene.pass(g, 59);
        Due.is("64 is this one", g.lonely(), -1);
        g.minute(1);
        Due.is("64 is past", g.lonely(), 0);
        RockingGuard worn = Scene.worn(99);
        worn.horse(1, 0);
        Due.is("WEAR, riders aside", worn.lonely(), -1);
    }

    /** As of SAFE: the 60 MINUTES go on past 9999. */
    static void lonelyPast9999() {
        Said.at("IV", "in the next 60 MINUTES (this one, too);");
        RockingGuard g = Scene.horses(2, 2);
        Scene.pass(g, 9999);
        Due.is("both are due behind 9999", g.lonely(), -1);
        g.nail(1, 1);
        Due.is("never together", g.lonely(), 0);
    }

    static void lonelyLowest() {
        Said.at("IV", "of like ones the lowest; none.");
        RockingGuard g = new RockingGuard();
        Due.is("no HORSES", g.lonely(), -1);
        g.horse(3, 0);
        Due.is("one alone", g.lonely(), 0);
        g.horse(3, 1);
        g.horse(3, 2);
        Due.is("the lowest of three", g.lonely(), 0);
        g.horse(3, 0);
        Due.is("0 and 3 are due together", g.lonely(), 1);
        g.horse(3, 1);
        Due.is("1 and 4, too", g.lonely(), 2);
        g.horse(3, 2);
        Due.is("all", g.lonely(), -1);
    }

    // ==== V: WINTERS

    /** Four horses of BEAT 1 and three boys on none. */
    private static RockingGuard winter() {
        RockingGuard g = Scene.horses(1, 1, 1, 1);
        for (int i = 0; i < 3; i++) g.boy(5);
        g.limit(8);
        return g;
    }

    static void wintersSeed() {
        Said.at("V", "WINTERS by a SEED: X is SEED (0 .. 9999) * 2 + 151; n times (1 .. 40):");
        RockingGuard g = new RockingGuard();
        Due.is("winters(-1, 1)", g.winters(-1, 1), -1);
        Due.is("winters(10000, 1)", g.winters(10000, 1), -1);
        Due.is("winters(0, 0)", g.winters(0, 0), -1);
        Due.is("winters(0, 41)", g.winters(0, 41), -1);
        Due.is("X is as at first", g.is(4), 151);
        // 151 * 383 + 263 = 58096 = 30491 + 27605.
        Due.is("winters(0, 1)", g.winters(0, 1), 0);
        Due.is("X", g.is(4), 27605);
        // 20149 * 383 + 263 = 7717330 = 253 * 30491 + 3107.
        Due.is("winters(9999, 1)", g.winters(9999, 1), 0);
        Due.is("X", g.is(4), 3107);
        // Of 40 draws from 151 on 15 are 4 or 5 mod 6, of the first 39, too.
        Due.is("winters(0, 40)", g.winters(0, 40), 15);
        Due.is("X behind 40", g.is(4), 15813);
        g.undo();
        Due.is("winters(0, 39)", g.winters(0, 39), 15);
        Due.is("X behind 39", g.is(4), 24720);
    }

    static void wintersX() {
        Said.at("V", "x is X, X anew ((X * 383 + 263) mod 30491):");
        RockingGuard g = new RockingGuard();
        // 27605 * 383 + 263 = 10572978 = 346 * 30491 + 23092.
        g.winters(0, 2);
        Due.is("X behind two", g.is(4), 23092);
        Due.is("x was 151, then 27605 (5 mod 6)", g.is(0), 1);
    }

    static void wintersMount() {
        Said.at("V", "x mod 6: 0, 1 boy x mod how many there are MOUNTS HORSE x / 6 mod how many;");
        RockingGuard g = winter();
        // 151: 1 mod 6; boy 151 mod 3 = 1, HORSE 25 mod 4 = 1.
        g.winters(0, 1);
        Due.is("1 mod 6", g.ofBoy(1, 2), 1);
        // 321 does nothing (3 mod 6, not 0 mod 5); 1242: 0 mod 6; boy 0, HORSE 207 mod 4 = 3.
        g.winters(85, 2);
        Due.is("0 mod 6", g.ofBoy(0, 2), 3);
        g.off(0);
        // 327 does nothing; 3540: 0 mod 6, 0 mod 4 and 0 mod 5; boy 0, HORSE 590 mod 4 = 2.
        g.winters(88, 2);
        Due.is("0 mod 6 is no OFF", g.ofBoy(0, 2), 2);
        Due.is("0 mod 6 is no oiling", g.is(3), 9);
        g.winters(0, 1);
        Due.is("one who is on it stays", g.ofBoy(1, 2), 1);
        Due.is("no MINUTE", g.is(0), 0);
        RockingGuard taken = winter();
        taken.mount(0, 1);
        taken.winters(0, 1);
        Due.is("HORSE 1 has a boy", taken.ofBoy(1, 2), -1);
    }

    static void wintersOff() {
        Said.at("V", "2 he is OFF, if x mod 4 is 0;");
        RockingGuard g = winter();
        g.mount(2, 0);
        g.mount(1, 1);
        // 477 does nothing; 8: 2 mod 6 and 0 mod 4; boy 8 mod 3 = 2.
        g.winters(163, 2);
        Due.is("he", g.ofBoy(2, 2), -1);
        Due.is("the other", g.ofBoy(1, 2), 1);
        g.mount(2, 0);
        // 483 does nothing; 2306: 2 mod 6, but 2 mod 4; boy 2306 mod 3 = 2.
        g.winters(166, 2);
        Due.is("x mod 4 isn't 0", g.ofBoy(2, 2), 0);
        Due.is("no MINUTE", g.is(0), 0);
        // 501 does nothing; 9200: 2 mod 6, 0 mod 4 and 0 mod 5; boy 9200 mod 3 = 2.
        g.winters(175, 2);
        Due.is("he is OFF", g.ofBoy(2, 2), -1);
        Due.is("nothing is OILED by it", g.is(3), 9);
        Due.is("no MINUTE", g.is(0), 0);
        Due.is("no boy who is on none", winter().winters(163, 2), 0);
    }

    static void wintersOil() {
        Said.at("V", "3 HORSE x mod how many is OILED, if x mod 5 is 0 (each if it can be);");
        RockingGuard g = winter();
        g.mount(0, 1);
        g.minute(2);
        // 165: 3 mod 6 and 0 mod 5; HORSE 165 mod 4 = 1.
        g.winters(7, 1);
        Due.is("OIL", g.is(3), 8);
        Due.is("WEAR", g.ofHorse(1, 2), 0);
        g.minute(1);
        // 153: 3 mod 6, but 3 mod 5; HORSE 153 mod 4 = 1.
        g.winters(1, 1);
        Due.is("x mod 5 isn't 0", g.is(3), 8);
        Due.is("WEAR stays", g.ofHorse(1, 2), 1);
        Due.is("no MINUTE", g.is(0), 3);
        for (int i = 0; i < 8; i++) g.oil(0);
        g.winters(7, 1);
        Due.is("no OIL is left", g.is(3), 0);
        Due.is("it can't be", g.ofHorse(1, 2), 1);
    }

    static void wintersMinute() {
        Said.at("V", "else a MINUTE (if it can pass).");
        RockingGuard g = winter();
        g.limit(1);
        g.mount(0, 0);
        // 155: 5 mod 6.
        Due.is("5 mod 6", g.winters(2, 1), 1);
        // 159 does nothing; 178: 4 mod 6.
        Due.is("4 mod 6", g.winters(4, 2), 2);
        Due.is("slides are written down", g.book(-1, 0), 2);
        Due.is("he is TIRED", g.ofBoy(0, 1), 2);
        RockingGuard late = new RockingGuard();
        Scene.pass(late, 9998);
        Due.is("the last", late.winters(2, 1), 9999);
        Due.is("none can pass", late.winters(2, 1), 9999);
        Due.is("X goes on", late.is(4), 29137);
    }

    static void wintersOfOne() {
        Said.at("V", "boy x mod how many there are MOUNTS HORSE x / 6 mod how many;");
        RockingGuard g = Scene.horses(1);
        g.boy(5);
        g.winters(0, 1);
        Due.is("the one boy on the one HORSE", g.ofBoy(0, 2), 0);
        g.minute(3);
        g.winters(7, 1);
        Due.is("the one HORSE is OILED", g.ofHorse(0, 2), 0);
        Due.is("OIL", g.is(3), 8);
        g.winters(163, 2);
        Due.is("the one boy is OFF", g.ofBoy(0, 2), -1);
    }

    static void wintersOfAll() {
        Said.at("V", "x mod 6: 0, 1 boy x mod how many there are MOUNTS HORSE x / 6 mod how many;");
        RockingGuard g = Scene.horses(1, 1, 1, 1, 1, 1, 1, 1);
        for (int i = 0; i < 6; i++) g.boy(5);
        // 151: 1 mod 6; boy 151 mod 6 = 1, HORSE 25 mod 8 = 1.
        g.winters(0, 1);
        Due.is("of six and eight", g.ofBoy(1, 2), 1);
        g.off(1);
        // 193: 1 mod 6; boy 193 mod 6 = 1, HORSE 32 mod 8 = 0.
        g.winters(21, 1);
        Due.is("of six and eight", g.ofBoy(1, 2), 0);
        g.off(1);
        // 187: 1 mod 6; HORSE 31 mod 8 = 7.
        g.winters(18, 1);
        Due.is("the last HORSE", g.ofBoy(1, 2), 7);
    }

    static void wintersWithout() {
        Said.at("V", "What there are none of isn't.");
        RockingGuard none = new RockingGuard();
        Due.is("neither", none.winters(0, 40), 15);
        Due.is("OIL", none.is(3), 9);
        RockingGuard horses = Scene.horses(1, 1, 1, 1);
        horses.winters(0, 1);
        Due.is("no boys to mount", horses.ofHorse(1, 3), -1);
        horses.winters(163, 2);
        Due.is("nor to be off", horses.unmanned(), 0);
        horses.winters(7, 1);
        Due.is("HORSES are oiled", horses.is(3), 8);
        RockingGuard boys = new RockingGuard();
        boys.boy(5);
        boys.winters(0, 1);
        Due.is("no HORSE to mount", boys.ofBoy(0, 2), -1);
        boys.winters(7, 1);
        Due.is("none to be oiled", boys.is(3), 9);
    }

    static void wintersAreOneStep() {
        Said.at("V", "It is one STEP: MINUTE.");
        RockingGuard g = winter();
        g.limit(1);
        g.mount(0, 0);
        Due.is("MINUTE", g.winters(0, 40), 15);
        Due.is("one STEP", g.about(4), 2);
        Due.is("undo()", g.undo(), 1);
        Due.is("MINUTE", g.is(0), 0);
        Due.is("X", g.is(4), 151);
        Due.is("BOOK", g.book(-1, 0), 0);
        Due.is("who is on what", g.ofBoy(0, 2), 0);
        Due.is("no other", g.ofBoy(1, 2), -1);
        // 153 does nothing: a STEP all the same.
        g.winters(1, 1);
        Due.is("a STEP", g.about(4), 2);
    }

    // ==== V: THE IMAGE

    static void imageOfAll() {
        Said.at("V", "AN IMAGE: all as it is, but the tape and the latest FAULT.");
        RockingGuard g = new RockingGuard();
        g.horse(2, 0);
        Due.text(g, "boy 0;");
        Due.tape(g, "boy 5;");
        g.image();
        Due.text(g, "boy 11; x;");
        Due.tape(g, "boy 7;wears");
        g.back();
        Due.is("the tape isn't of it", g.about(9), 11);
        Due.is("nor is the FAULT", g.fault(0), 2);
        Due.text(g, "x");
        g.back();
        Due.is("nor is the FAULT", g.fault(0), 1);
        Due.is("nor its place", g.fault(1), 0);
        Due.is("the tape is empty yet", g.about(9), 0);
        Due.is("the HORSE is of it", g.about(0), 1);
    }

    static void backToTheImage() {
        Said.at("V", "BACK: all is so again.");
        RockingGuard g = Scene.ridden(1, 3);
        g.limit(2);
        g.minute(2);
        g.heard(0, 1);
        g.watch(0, 1, 9);
        g.haul(9);
        g.counted(1, 9);
        Due.rule(g, "seen 5;");
        g.oil(1);
        g.winters(1, 1);
        g.image();
        spoil(g);
        for (int twice = 0; twice < 2; twice++) {
            Due.is("MINUTE", g.back(), 2);
            int[] about = {2, 2, 1, 0, 6, 1, 1, 1, 1, 0};
            for (int i = 0; i < about.length; i++) Due.is("about(" + i + ")", g.about(i), about[i]);
            int[] is = {2, 1, 2, 8, 28371, 5, 1};
            for (int i = 0; i < is.length; i++) Due.is("is(" + i + ")", g.is(i), is[i]);
            int[][] ofHorse = {{1, 0, 2, 0, 1}, {3, 0, 0, 1, 0}};
            for (int h = 0; h < 2; h++) for (int what = 0; what < 5; what++) Due.is("ofHorse(" + h + ", " + what + ")", g.ofHorse(h, what), ofHorse[h][what]);
            int[][] ofBoy = {{5, 2, 0}, {5, 1, 1}};
            for (int b = 0; b < 2; b++) for (int what = 0; what < 3; what++) Due.is("ofBoy(" + b + ", " + what + ")", g.ofBoy(b, what), ofBoy[b][what]);
            Due.is("BOOK", g.book(-1, 0), 1);
            Due.is("its slide", g.book(0, 2), 3);
            Due.is("a STEP", g.undo(), 5);
            Due.is("WINTERS taken back", g.is(4), 151);
            Due.is("a STEP", g.undo(), 4);
            Due.is("OIL taken back", g.is(3), 9);
            spoil(g);
        }
    }

    static void backToTheLists() {
        Said.at("V", "BACK: all is so again.");
        RockingGuard g = Scene.horses(2, 2);
        g.boy(5);
        Due.text(g, "");
        g.heard(0, 1);
        g.watch(0, 5, 5);
        g.haul(98);
        g.haul(97);
        g.counted(1, 8);
        g.nail(1, 1);
        g.image();
        g.heard(-1, 0);
        g.heard(1, 0);
        g.watch(-1, 0, 0);
        g.watch(1, 6, 9);
        g.haul(-1);
        g.haul(1);
        g.haul(1);
        g.counted(-1, 0);
        g.counted(2, 9);
        g.back();
        Due.is("HEARD", g.rode(1), 1);
        Due.is("HEARD", g.rode(2), 0);
        Due.is("WATCHES", g.manned(0), 0);
        Due.is("HAULS", g.oilings(0, true), 2);
        Due.is("HAULS", g.oilings(1, true), 3);
        Due.is("COUNTED", g.whose(), 1);
        g.watch(-1, 0, 0);
        g.watch(0, 1, 4);
        g.image();
        g.watch(-1, 0, 0);
        g.watch(0, 1, 9);
        g.back();
        Due.is("WATCHES up to SIZE 4", g.manned(0), -1);
    }

    /** Changes all that an image holds. */
    private static void spoil(RockingGuard g) {
        g.horse(9, 8);
        g.boy(9);
        g.limit(1);
        g.minute(40);
        g.off(0);
        g.off(1);
        g.nail(1, 2);
        g.oil(0);
        g.heard(-1, 0);
        g.watch(-1, 0, 0);
        g.haul(-1);
        g.counted(-1, 0);
        Due.text(g, "seen 6;");
        g.by(1);
        g.winters(77, 40);
    }
}
