/** Part III of the document's Terms (what comes, what is heard), sentence by sentence. */
public final class SaidThreeTest {
    public static void main(String[] args) {
        Said.runAll(SaidThreeTest.class, "III");
    }

    /** All that can be read of a guard, in one text. */
    private static String all(RockingGuard g) {
        StringBuilder read = new StringBuilder();
        for (int i = 0; i < 10; i++) read.append(g.about(i)).append(' ');
        for (int i = 0; i < 7; i++) read.append(g.is(i)).append(' ');
        for (int i = 0; i < 2; i++) for (int what = 0; what < 6; what++) read.append(g.ofHorse(i, what)).append(' ');
        for (int i = 0; i < 2; i++) for (int what = 0; what < 4; what++) read.append(g.ofBoy(i, what)).append(' ');
        for (int i = 0; i < 5; i++) for (int what = 0; what < 3; what++) read.append(g.book(i, what)).append(' ');
        return read.append(g.book(-1, 0)).append(' ').append(g.fault(0)).append(' ').append(g.fault(1)).toString();
    }

    private static void askAll(RockingGuard g) {
        g.rocking(77);
        g.together(3);
        for (int what = 0; what < 3; what++) g.foretold(60, what, 1);
        g.firstSlide();
        g.unmanned();
        g.safe(99, 2);
        for (int what = 0; what < 3; what++) g.rode(what);
        g.listen(60);
        g.manned(-1);
        g.manned(0);
        g.below(5, 2, 3, true);
        g.gale(3, 5, 1, false);
        g.ropes(2);
        g.oilings(50, true);
        g.show(8);
        g.whose();
        g.slid(-1);
        g.slid(0);
        g.inStep();
        g.tiredest();
        g.veterans(4);
        g.lonely();
    }

    static void nothingIsChanged() {
        Said.at("III", "All that follows changes nothing.");
        RockingGuard g = Scene.ridden(1, 2);
        g.limit(2);
        g.minute(3);
        g.heard(0, 2);
        g.watch(1, 2, 6);
        g.haul(60);
        g.haul(70);
        g.counted(1, 8);
        Due.rule(g, "wears 2;seen 9*rocking;");
        Due.tape(g, "boy 5;");
        String ahead = all(g);
        askAll(g);
        Due.is("all is as it was", all(g).equals(ahead), true);
        g.undo();
        Due.is("a STEP taken back is the MINUTE", g.is(0), 2);
        Due.is("the tape is as it was", g.text(), 1);
    }

    static void nothingIsChangedAtTheEnd() {
        Said.at("III", "All that follows changes nothing.");
        RockingGuard g = Scene.ridden(1, 2);
        g.limit(1);
        Scene.pass(g, 9998);
        String ahead = all(g);
        askAll(g);
        Due.is("all is as it was at 9998", all(g).equals(ahead), true);
        g.minute(1);
        ahead = all(g);
        askAll(g);
        Due.is("all is as it was at 9999", all(g).equals(ahead), true);
    }

    static void rockingAtAMinute() {
        Said.at("III", "ROCKING at a MINUTE m (0 .. 9999), all else as now: HORSES (bits).");
        RockingGuard g = Scene.ridden(2, 3);
        g.horse(1, 0);
        Due.is("rocking(-1)", g.rocking(-1), -1);
        Due.is("rocking(0)", g.rocking(0), 3);
        Due.is("rocking(1)", g.rocking(1), 0);
        Due.is("rocking(2)", g.rocking(2), 1);
        Due.is("rocking(9999)", g.rocking(9999), 2);
        Due.is("rocking(10000)", g.rocking(10000), -1);
        g.minute(5);
        Due.is("one that is past", g.rocking(0), 3);
        g.off(0);
        Due.is("boys as now", g.rocking(0), 2);
        RockingGuard worn = Scene.worn(99);
        Due.is("WEAR as now", worn.rocking(500), 0);
    }

    // ==== TOGETHER

    static void togetherFromThisOne() {
        Said.at("III", "TOGETHER: of a set of HORSES (WEAR, riders aside): the first MINUTE from this one on, at which all of it are due by BEAT and SHIFT;");
        RockingGuard g = new RockingGuard();
        g.horse(9, 8);
        g.horse(8, 7);
        g.horse(2, 1);
        Due.is("71 is 8 mod 9 and 7 mod 8", g.together(3), 71);
        Due.is("it is odd", g.together(7), 71);
        Due.is("one alone", g.together(4), 1);
        Scene.pass(g, 71);
        Due.is("this one", g.together(7), 71);
        g.minute(1);
        Due.is("72 later", g.together(7), 143);
        RockingGuard worn = Scene.worn(99);
        Due.is("WEAR aside", worn.together(1), 11);
        worn.off(0);
        Due.is("riders aside", worn.together(1), 11);
        // The widest of all rounds: 5 * 7 * 8 * 9.
        RockingGuard wide = new RockingGuard();
        wide.horse(5, 4);
        wide.horse(7, 6);
        wide.horse(8, 7);
        wide.horse(9, 8);
        Due.is("the last MINUTE of 2520", wide.together(15), 2519);
        Scene.pass(wide, 2520);
        Due.is("2520 later", wide.together(15), 5039);
    }

    static void togetherNever() {
        Said.at("III", "none (never; beyond 9999, too).");
        RockingGuard never = new RockingGuard();
        never.horse(4, 0);
        never.horse(6, 1);
        Due.is("even and odd", never.together(3), -1);
        RockingGuard g = new RockingGuard();
        g.horse(9, 0);
        g.horse(8, 7);
        g.horse(7, 0);
        // 9999 is 0 mod 9, 7 mod 8 and 3 mod 7.
        Scene.pass(g, 9990);
        Due.is("9999 itself", g.together(3), 9999);
        g.nail(2, 3);
        Due.is("9999 of all three", g.together(7), 9999);
        g.nail(2, 4);
        Due.is("beyond 9999", g.together(7), -1);
        g.nail(1, 0);
        Due.is("10008 is beyond, too", g.together(3), -1);
        g.minute(9);
        Due.is("the last MINUTE", g.together(1), 9999);
        Due.is("10000 is beyond", g.together(2), -1);
    }

    // ==== FORETOLD, FIRST SLIDE, UNMANNED

    static void foretoldBehindMinutes() {
        Said.at("III", "FORETOLD behind n MINUTES (1 .. 60; those that can pass), nothing else being done: SNOW, WEAR of a HORSE, TIRED of a boy.");
        RockingGuard g = Scene.ridden(1, 9);
        Due.rule(g, "tires if horse=0 then 0 else 2 end;");
        Due.is("foretold(0, 0, 0)", g.foretold(0, 0, 0), -1);
        Due.is("foretold(61, 0, 0)", g.foretold(61, 0, 0), -1);
        // Boy 1 is off by his fifth MINUTE; his HORSE rocked once.
        Due.is("SNOW behind 1", g.foretold(1, 0, 0), 2);
        Due.is("SNOW behind 60", g.foretold(60, 0, 0), 61);
        Due.is("WEAR behind 1", g.foretold(1, 1, 0), 1);
        Due.is("WEAR behind 60", g.foretold(60, 1, 0), 60);
        Due.is("WEAR of the other", g.foretold(60, 1, 1), 1);
        Due.is("TIRED behind 4", g.foretold(4, 2, 1), 8);
        Due.is("TIRED behind 5", g.foretold(5, 2, 1), 9);
        Due.is("TIRED behind 6", g.foretold(6, 2, 1), 8);
        Due.is("TIRED behind 60", g.foretold(60, 2, 1), 0);
        RockingGuard late = Scene.horses(1);
        late.boy(5);
        Scene.pass(late, 9990);
        late.mount(0, 0);
        Due.is("nine can pass", late.foretold(60, 1, 0), 9);
        Due.is("nine can pass", late.foretold(9, 1, 0), 9);
        Due.is("eight of nine", late.foretold(8, 1, 0), 8);
        late.minute(7);
        Due.is("two can pass", late.foretold(60, 2, 0), 9);
        late.minute(2);
        Due.is("none can pass", late.foretold(1, 1, 0), 9);
    }

    static void foretoldSlides() {
        Said.at("III", "nothing else being done: SNOW,");
        RockingGuard g = Scene.ridden(1, 4);
        g.limit(2);
        Due.is("a slide at once", g.foretold(1, 0, 0), 0);
        Due.is("three behind it", g.foretold(4, 0, 0), 3);
        Due.is("the next slide", g.foretold(5, 0, 0), 0);
        Due.is("none is written down", g.book(-1, 0), 0);
    }

    static void foretoldByTheText() {
        Said.at("III", "nothing else being done: SNOW, WEAR of a HORSE, TIRED of a boy.");
        RockingGuard g = Scene.horses(1, 9);
        g.boy(4);
        g.boy(6);
        g.mount(0, 0);
        g.mount(1, 1);
        Due.rule(g, "wears size;tires size-beat horse/9-3;");
        Due.is("WEAR by SIZE 4", g.foretold(2, 1, 0), 8);
        Due.is("WEAR by SIZE 6", g.foretold(2, 1, 1), 6);
        Due.is("TIRED: 4 - 0 - 3 each", g.foretold(2, 2, 0), 2);
        Due.is("TIRED: 6 - 1 - 3 each", g.foretold(2, 2, 1), 4);
        g.limit(2);
        Due.is("LIMIT as now", g.foretold(1, 0, 0), 0);
    }

    static void firstSlideWithin60() {
        Said.at("III", "FIRST SLIDE: in how many MINUTES (60 at most); none.");
        RockingGuard g = Scene.ridden(9, 8);
        Due.rule(g, "wears 0;tires 0;");
        Due.is("LIMIT 8 is never met", g.firstSlide(), -1);
        g.limit(2);
        Due.is("in this MINUTE", g.firstSlide(), 1);
        g.minute(1);
        Due.is("MINUTE 72 is the 72nd", g.firstSlide(), -1);
        g.minute(11);
        Due.is("MINUTE 72 is the 61st", g.firstSlide(), -1);
        g.minute(1);
        Due.is("MINUTE 72 is the 60th", g.firstSlide(), 60);
        g.minute(59);
        Due.is("MINUTE 72 is this one", g.firstSlide(), 1);
        g.limit(1);
        Scene.pass(g, 9999 - 72);
        Due.is("at 9999 none can pass", g.firstSlide(), -1);
        Due.is("though it rocks", g.rocking(9999), 1);
    }

    static void unmannedWithin60() {
        Said.at("III", "UNMANNED: in how many MINUTES (0 .. 60) no boy is on any HORSE; none.");
        Due.is("no HORSES at all", new RockingGuard().unmanned(), 0);
        RockingGuard g = Scene.ridden(1, 1);
        g.off(0);
        g.off(1);
        Due.is("none is on", g.unmanned(), 0);
        g.mount(0, 0);
        Due.is("nine MINUTES", g.unmanned(), 9);
        Due.rule(g, "tires if minute=59 then 9 else 0 end;");
        Due.is("the 60th MINUTE", g.unmanned(), 60);
        Due.rule(g, "tires if minute=60 then 9 else 0 end;");
        Due.is("the 61st MINUTE", g.unmanned(), -1);
        Due.rule(g, "tires if minute=0 then 9 else 0 end;");
        Due.is("this MINUTE", g.unmanned(), 1);
        g.mount(1, 1);
        Due.rule(g, "tires if who=0 then 9 else 3 end;");
        Due.is("the last of two", g.unmanned(), 3);
        RockingGuard late = Scene.horses(1);
        late.boy(5);
        Scene.pass(late, 9990);
        late.mount(0, 0);
        Due.is("nine MINUTES can pass", late.unmanned(), 9);
        late.undo();
        late.minute(1);
        late.mount(0, 0);
        Due.is("eight can", late.unmanned(), -1);
    }

    // ==== SAFE

    static void safeWithinNMinutes() {
        Said.at("III", "SAFE: the most HORSES (bits), by BEAT and SHIFT alone, of which in none of n (1 .. 99) MINUTES from this one on k (1 .. 8) or more are due together;");
        RockingGuard g = new RockingGuard();
        g.horse(5, 3);
        g.horse(7, 0);
        g.horse(9, 8);
        // The three are due together at 98 (3 mod 5, 0 mod 7, 8 mod 9) and each 315 MINUTES.
        Due.is("safe(98, 3)", g.safe(98, 3), 7);
        Due.is("safe(99, 3)", g.safe(99, 3), 3);
        Due.is("safe(0, 3)", g.safe(0, 3), -1);
        Due.is("safe(100, 3)", g.safe(100, 3), -1);
        Due.is("safe(1, 1): HORSE 1 is due now", g.safe(1, 1), 5);
        Due.is("safe(1, 0)", g.safe(1, 0), -1);
        Due.is("safe(1, 9)", g.safe(1, 9), -1);
        g.minute(1);
        Due.is("from this one on", g.safe(97, 3), 7);
        Due.is("from this one on", g.safe(98, 3), 3);
        Due.is("from this one on", g.safe(1, 1), 7);
        Scene.pass(g, 97);
        Due.is("this one", g.safe(1, 3), 3);
        g.minute(1);
        Due.is("past it", g.safe(99, 3), 7);
    }

    static void safeOfEight() {
        Said.at("III", "k (1 .. 8) or more are due together;");
        RockingGuard g = Scene.horses(1, 1, 1, 1, 1, 1, 1, 1);
        for (int k = 1; k <= 8; k++) Due.is("safe(1, " + k + ")", g.safe(1, k), (1 << (k - 1)) - 1);
        RockingGuard seven = Scene.horses(1, 1, 1, 1, 1, 1, 1);
        Due.is("seven are never eight", seven.safe(99, 8), 127);
        Due.is("no HORSES", new RockingGuard().safe(99, 8), 0);
    }

    static void safeAside() {
        Said.at("III", "by BEAT and SHIFT alone,");
        RockingGuard g = Scene.worn(99);
        g.horse(1, 0);
        Due.is("one that is worn out, one without a boy", g.safe(1, 2), 1);
    }

    /** The document tells no end of the n MINUTES but n: BEAT and SHIFT alone go on past 9999. */
    static void safePast9999() {
        Said.at("III", "in none of n (1 .. 99) MINUTES from this one on");
        RockingGuard g = Scene.horses(2, 2);
        g.nail(1, 1);
        Scene.pass(g, 9999);
        Due.is("9999 alone", g.safe(1, 1), 1);
        Due.is("9999 and the one behind it", g.safe(2, 1), 0);
    }

    static void safeLowest() {
        Said.at("III", "of like ones the lowest set.");
        RockingGuard g = new RockingGuard();
        g.horse(2, 0);
        g.horse(2, 0);
        g.horse(2, 1);
        g.horse(2, 1);
        // {0, 2}, {0, 3}, {1, 2}, {1, 3}.
        Due.is("of four pairs", g.safe(9, 2), 5);
        Due.is("of one MINUTE's two sets of three", g.safe(1, 2), 13);
        RockingGuard three = Scene.horses(1, 1, 1);
        Due.is("of three", three.safe(1, 2), 1);
    }

    // ==== HEARD

    static void heardEight() {
        Said.at("III", "HEARD (8 at most; told): so many creaks (0 .. 8) at a MINUTE:");
        RockingGuard g = Scene.horses(1);
        Due.is("creaks -1", g.heard(0, -1), -2);
        Due.is("creaks 9", g.heard(0, 9), -2);
        Due.is("MINUTE 10000", g.heard(10000, 0), -2);
        Due.is("MINUTE -2", g.heard(-2, 0), -2);
        Due.is("none of these", g.about(5), 0);
        Due.is("creaks 0", g.heard(0, 0), 1);
        Due.is("creaks 8", g.heard(9999, 8), 2);
        for (int i = 3; i <= 8; i++) Due.is("heard", g.heard(i, 1), i);
        Due.is("a ninth", g.heard(9, 1), -2);
        Due.is("eight", g.about(5), 8);
    }

    static void whoRode() {
        Said.at("III", "WHO RODE: sets of HORSES by which all HEARD is so (due ones of the set by BEAT and SHIFT): how many;");
        RockingGuard g = Scene.horses(2, 3, 1);
        Due.is("nothing HEARD: all sets", g.rode(0), 8);
        // At 9999 (odd, a multiple of 3) HORSES 1 and 2 are due.
        g.heard(9999, 1);
        Due.is("1 or 2, 0 or not", g.rode(0), 4);
        g.heard(0, 3);
        Due.is("all three can't be", g.rode(0), 0);
        g.heard(-1, 0);
        g.heard(1, 1);
        Due.is("HORSE 2", g.rode(0), 4);
        g.heard(2, 2);
        Due.is("and HORSE 0", g.rode(0), 2);
        g.heard(3, 2);
        Due.is("and HORSE 1", g.rode(0), 1);
        g.heard(3, 2);
        Due.is("the same once more", g.rode(0), 1);
        RockingGuard eight = Scene.horses(1, 1, 1, 1, 1, 1, 1, 1);
        Due.is("256 sets", eight.rode(0), 256);
        eight.heard(0, 8);
        Due.is("all eight", eight.rode(0), 1);
        eight.heard(-1, 0);
        eight.heard(0, 4);
        Due.is("four of eight", eight.rode(0), 70);
        Due.is("no HORSES: the empty set", new RockingGuard().rode(0), 1);
    }

    static void whoRodeAside() {
        Said.at("III", "(due ones of the set by BEAT and SHIFT)");
        RockingGuard g = Scene.worn(99);
        g.horse(1, 0);
        g.heard(11, 2);
        Due.is("WEAR, riders aside", g.rode(1), 3);
        g.minute(1);
        Due.is("MINUTE aside", g.rode(0), 1);
        RockingGuard nailed = Scene.horses(2);
        nailed.heard(0, 1);
        Due.is("due", nailed.rode(0), 1);
        nailed.nail(0, 1);
        Due.is("by SHIFT as now", nailed.rode(0), 0);
    }

    static void sure() {
        Said.at("III", "SURE: HORSES (bits) in all of these;");
        RockingGuard g = Scene.horses(1, 2, 9);
        Due.is("nothing HEARD", g.rode(1), 0);
        g.heard(1, 1);
        Due.is("HORSE 0", g.rode(1), 1);
        g.heard(0, 2);
        Due.is("1 or 2", g.rode(1), 1);
        g.heard(2, 1);
        Due.is("HORSE 2, since 1 isn't", g.rode(1), 5);
    }

    static void never() {
        Said.at("III", "NEVER: in none (0 each, if there are none).");
        RockingGuard g = Scene.horses(1, 2, 9);
        Due.is("nothing HEARD", g.rode(2), 0);
        g.heard(0, 0);
        Due.is("all", g.rode(2), 7);
        Due.is("none is SURE", g.rode(1), 0);
        g.heard(0, 1);
        Due.is("no sets", g.rode(0), 0);
        Due.is("SURE of no sets", g.rode(1), 0);
        Due.is("NEVER of no sets", g.rode(2), 0);
        Due.is("no HORSES", new RockingGuard().rode(2), 0);
        RockingGuard one = Scene.horses(1);
        one.heard(0, 1);
        Due.is("SURE", one.rode(1), 1);
        one.heard(1, 0);
        Due.is("SURE of no sets, whatever was asked before", one.rode(1), 0);
    }

    static void listenWithinN() {
        Said.at("III", "LISTEN: of the n MINUTES (1 .. 60) from this one on the one at which most unlike counts come of these sets;");
        RockingGuard g = new RockingGuard();
        g.horse(9, 5);
        g.horse(8, 3);
        // Both are due at 59 (5 mod 9, 3 mod 8) for the first time.
        Due.is("listen(60)", g.listen(60), 59);
        Due.is("listen(59)", g.listen(59), 3);
        Due.is("listen(1)", g.listen(1), 0);
        Due.is("listen(0)", g.listen(0), -1);
        Due.is("listen(61)", g.listen(61), -1);
        g.minute(4);
        Due.is("from this one on", g.listen(60), 55);
        Due.is("from this one on", g.listen(55), 1);
        g.heard(3, 1);
        // HORSE 1 rode: at 5 HORSE 0 tells, at 59, too.
        Due.is("of these sets", g.listen(60), 1);
    }

    /** As of SAFE: the n MINUTES go on past 9999. */
    static void listenPast9999() {
        Said.at("III", "LISTEN: of the n MINUTES (1 .. 60) from this one on");
        RockingGuard g = Scene.horses(2);
        Scene.pass(g, 9999);
        Due.is("9999 alone", g.listen(1), 0);
        Due.is("9999 and the one behind it", g.listen(2), 1);
    }

    static void listenSoonest() {
        Said.at("III", "of like ones the soonest: in how many MINUTES; none (no sets).");
        RockingGuard g = Scene.horses(3, 3);
        g.nail(0, 1);
        g.nail(1, 2);
        Due.is("1 and 2, 4 and 5 ..", g.listen(60), 1);
        g.minute(1);
        Due.is("this one", g.listen(60), 0);
        g.heard(1, 1);
        g.heard(2, 0);
        Due.is("one set tells nothing more: the soonest", g.listen(60), 0);
        g.heard(2, 1);
        Due.is("no sets", g.listen(60), -1);
    }
}
