/** "use" (how long an object serves), part I of the document's Terms and its constants, sentence by sentence. */
public final class SaidOneTest {
    public static void main(String[] args) {
        Said.runAll(SaidOneTest.class, "use", "I", "constants");
    }

    static void callsAre512() {
        Said.at("use", "An object is used for at most 512 calls after it has been made; what later calls answer is free.");
        RockingGuard g = new RockingGuard();
        g.horse(9, 0);
        for (int i = 1; i <= 509; i++) g.nail(0, i % 9);
        Due.is("the 511th call: shift 509 mod 9", g.ofHorse(0, 1), 5);
        Due.is("the 512th call", g.undo(), 29);
        // Whatever these answer, they end and don't throw.
        for (int i = 0; i < 600; i++) g.minute(1 + i % 60);
    }

    static void constantNone() {
        Said.at("constants", "The constants: `NONE = -1`: None.");
        Due.is("NONE", RockingGuard.NONE, -1);
    }

    // ==== HORSES

    static void horsesAreEight() {
        Said.at("I", "HORSES 0 .. 7 (told one by one):");
        RockingGuard g = new RockingGuard();
        for (int i = 0; i < 8; i++) {
            Due.is("one that isn't told yet", g.ofHorse(i, 0), -2);
            Due.is("horse(2, 0)", g.horse(2, 0), i);
            Due.is("one that is told", g.ofHorse(i, 0), 2);
        }
        Due.is("a ninth", g.horse(2, 0), -1);
        Due.is("number 8", g.ofHorse(8, 0), -2);
        Due.is("number -1", g.ofHorse(-1, 0), -2);
        Due.is("eight yet", g.about(0), 8);
    }

    static void beatOneToNine() {
        Said.at("I", "BEAT 1 .. 9,");
        RockingGuard g = new RockingGuard();
        Due.is("horse(0, 0)", g.horse(0, 0), -1);
        Due.is("horse(10, 0)", g.horse(10, 0), -1);
        Due.is("none is told by these", g.about(0), 0);
        Due.is("horse(1, 0)", g.horse(1, 0), 0);
        Due.is("horse(9, 0)", g.horse(9, 0), 1);
        Due.is("BEAT 1", g.ofHorse(0, 0), 1);
        Due.is("BEAT 9", g.ofHorse(1, 0), 9);
    }

    static void shiftBelowBeat() {
        Said.at("I", "SHIFT 0 .. 8 (below BEAT),");
        RockingGuard g = new RockingGuard();
        Due.is("horse(9, -1)", g.horse(9, -1), -1);
        Due.is("horse(9, 9)", g.horse(9, 9), -1);
        Due.is("horse(5, 5)", g.horse(5, 5), -1);
        Due.is("horse(5, 8)", g.horse(5, 8), -1);
        Due.is("horse(1, 1)", g.horse(1, 1), -1);
        Due.is("none is told by these", g.about(0), 0);
        Due.is("horse(9, 8)", g.horse(9, 8), 0);
        Due.is("horse(5, 4)", g.horse(5, 4), 1);
        Due.is("horse(1, 0)", g.horse(1, 0), 2);
        Due.is("SHIFT 8", g.ofHorse(0, 1), 8);
        Due.is("SHIFT 4", g.ofHorse(1, 1), 4);
        Due.is("SHIFT 0", g.ofHorse(2, 1), 0);
    }

    static void wearUpTo99() {
        Said.at("I", "WEAR 0 .. 99 (at first 0).");
        RockingGuard g = Scene.ridden(1);
        Due.is("WEAR at first", g.ofHorse(0, 2), 0);
        Due.rule(g, "wears 9;tires 0;");
        g.minute(10);
        Due.is("WEAR behind ten nines", g.ofHorse(0, 2), 90);
        g.minute(1);
        Due.is("WEAR behind eleven nines", g.ofHorse(0, 2), 99);
        g.minute(60);
        Due.is("WEAR behind many more", g.ofHorse(0, 2), 99);
    }

    // ==== BOYS

    static void boysAreSix() {
        Said.at("I", "BOYS 0 .. 5 (told one by one):");
        RockingGuard g = new RockingGuard();
        for (int i = 0; i < 6; i++) {
            Due.is("one who isn't told yet", g.ofBoy(i, 0), -2);
            Due.is("boy(4)", g.boy(4), i);
            Due.is("one who is told", g.ofBoy(i, 0), 4);
        }
        Due.is("a seventh", g.boy(4), -1);
        Due.is("number 6", g.ofBoy(6, 0), -2);
        Due.is("number -1", g.ofBoy(-1, 0), -2);
        Due.is("six yet", g.about(1), 6);
    }

    static void sizeOneToNine() {
        Said.at("I", "SIZE 1 .. 9,");
        RockingGuard g = new RockingGuard();
        Due.is("boy(0)", g.boy(0), -1);
        Due.is("boy(10)", g.boy(10), -1);
        Due.is("none is told by these", g.about(1), 0);
        Due.is("boy(1)", g.boy(1), 0);
        Due.is("boy(9)", g.boy(9), 1);
        Due.is("SIZE 1", g.ofBoy(0, 0), 1);
        Due.is("SIZE 9", g.ofBoy(1, 0), 9);
    }

    static void tiredUpToNine() {
        Said.at("I", "TIRED 0 .. 9 (at first 0),");
        RockingGuard g = Scene.ridden(1);
        g.boy(3);
        Due.is("TIRED at first", g.ofBoy(0, 1), 0);
        Due.rule(g, "tires 7;");
        g.minute(2);
        Due.is("TIRED behind two sevens", g.ofBoy(0, 1), 9);
        Due.is("TIRED of one who rests from the first", g.ofBoy(1, 1), 0);
    }

    static void noTwoOnOne() {
        Said.at("I", "on a HORSE (no two on one) or on none (at first none).");
        RockingGuard g = Scene.horses(2, 3);
        g.boy(5);
        g.boy(6);
        Due.is("at first on none", g.ofBoy(0, 2), -1);
        Due.is("at first none on it", g.ofHorse(0, 3), -1);
        Due.is("he mounts 0", g.mount(0, 0), true);
        Due.is("on 0", g.ofBoy(0, 2), 0);
        Due.is("another on the same", g.mount(1, 0), false);
        Due.is("the other is on none", g.ofBoy(1, 2), -1);
        Due.is("the first is on it yet", g.ofHorse(0, 3), 0);
        Due.is("the other mounts 1", g.mount(1, 1), true);
    }

    // ==== all else that there is

    static void snowUpTo999() {
        Said.at("I", "SNOW 0 .. 999 (at first 0),");
        RockingGuard g = Scene.ridden(1, 1, 1, 1, 1, 1);
        Due.is("SNOW at first", g.is(1), 0);
        Due.rule(g, "wears 0;tires 0;");
        Scene.pass(g, 166);
        Due.is("SNOW behind 166 minutes of six", g.is(1), 996);
        g.minute(1);
        Due.is("SNOW behind 167", g.is(1), 999);
        g.minute(1);
        Due.is("SNOW behind 168", g.is(1), 999);
    }

    static void limitOneToEight() {
        Said.at("I", "LIMIT 1 .. 8 (told; at first 3),");
        RockingGuard g = new RockingGuard();
        Due.is("LIMIT at first", g.is(2), 3);
        Due.is("limit(0)", g.limit(0), false);
        Due.is("limit(9)", g.limit(9), false);
        Due.is("LIMIT is as it was", g.is(2), 3);
        Due.is("limit(1)", g.limit(1), true);
        Due.is("LIMIT 1", g.is(2), 1);
        Due.is("limit(8)", g.limit(8), true);
        Due.is("LIMIT 8", g.is(2), 8);
    }

    static void oilFromNineToNone() {
        Said.at("I", "OIL 0 .. 99 (at first 9).");
        RockingGuard g = Scene.horses(1);
        Due.is("OIL at first", g.is(3), 9);
        for (int left = 8; left >= 0; left--) Due.is("oil(0)", g.oil(0), left);
        Due.is("a tenth", g.oil(0), -1);
        Due.is("OIL is not below 0", g.is(3), 0);
    }

    static void minuteUpTo9999() {
        Said.at("I", "MINUTE 0 .. 9999 (at first 0).");
        RockingGuard g = new RockingGuard();
        Due.is("MINUTE at first", g.is(0), 0);
        Scene.pass(g, 9999);
        Due.is("MINUTE at last", g.is(0), 9999);
        g.minute(1);
        Due.is("no MINUTE behind it", g.is(0), 9999);
    }

    static void xAtFirst() {
        Said.at("I", "X: at first 151.");
        Due.is("X", new RockingGuard().is(4), 151);
    }

    static void bookOfThirtySlides() {
        Said.at("I", "BOOK (the latest 30 slides): MINUTE, SNOW that slid, HORSES that rocked (bits).");
        RockingGuard g = Scene.ridden(1, 2);
        Due.rule(g, "wears 0;tires 0;");
        g.limit(2);
        Due.is("empty at first", g.book(-1, 0), 0);
        g.minute(59);
        Due.is("slides at 0, 2, .. 58", g.book(-1, 0), 30);
        Due.is("the eldest: MINUTE", g.book(0, 0), 0);
        Due.is("the eldest: SNOW", g.book(0, 1), 2);
        Due.is("the eldest: HORSES", g.book(0, 2), 3);
        Due.is("the latest: SNOW of 57, too", g.book(29, 1), 3);
        g.limit(1);
        g.minute(1);
        Due.is("thirty yet", g.book(-1, 0), 30);
        Due.is("the first slide is gone", g.book(0, 0), 2);
        Due.is("the latest: MINUTE", g.book(29, 0), 59);
        Due.is("the latest: SNOW", g.book(29, 1), 1);
        Due.is("the latest: HORSES", g.book(29, 2), 1);
        Due.is("none behind it", g.book(30, 0), -2);
        g.limit(2);
        g.minute(3);
        // What is pushed out is the eldest alone: 6, 8, .. 58, then 59, 60 and 62.
        for (int i = 0; i < 27; i++) Due.is("MINUTE of " + i, g.book(i, 0), 6 + 2 * i);
        for (int i = 27; i < 30; i++) Due.is("MINUTE of " + i, g.book(i, 0), i == 29 ? 62 : 32 + i);
        Due.is("SNOW of one between", g.book(13, 1), 3);
        Due.is("HORSES of one between", g.book(13, 2), 3);
    }

    /** All places of a full terrace are apart from one another. */
    static void fullTerrace() {
        Said.at("I", "HORSES 0 .. 7 (told one by one): BEAT 1 .. 9, SHIFT 0 .. 8 (below BEAT), WEAR 0 .. 99 (at first 0).");
        RockingGuard g = new RockingGuard();
        g.limit(8);
        for (int h = 0; h < 8; h++) g.horse(9, h + 1);
        for (int b = 0; b < 6; b++) {
            g.boy(b + 2);
            g.mount(b, b);
        }
        Due.rule(g, "wears horse+1;tires 0;");
        g.minute(9);
        for (int b = 4; b < 6; b++) {
            g.off(b);
            g.mount(b, b + 2);
        }
        g.minute(9);
        Due.rule(g, "tires who+1;");
        g.minute(1);
        int[] wear = {2, 4, 6, 8, 5, 6, 7, 8};
        for (int h = 0; h < 8; h++) {
            Due.is("BEAT of " + h, g.ofHorse(h, 0), 9);
            Due.is("SHIFT of " + h, g.ofHorse(h, 1), h + 1);
            Due.is("WEAR of " + h, g.ofHorse(h, 2), wear[h]);
        }
        for (int b = 0; b < 6; b++) {
            Due.is("SIZE of " + b, g.ofBoy(b, 0), b + 2);
            Due.is("TIRED of " + b, g.ofBoy(b, 1), b + 1);
            Due.is("the HORSE of " + b, g.ofBoy(b, 2), b < 4 ? b : b + 2);
        }
        Due.is("SNOW", g.is(1), 12);
        Due.is("OIL", g.is(3), 9);
    }

    /** All of a full terrace is taken back. */
    static void fullTerraceTakenBack() {
        Said.at("I", "(SHIFTS, WEAR, TIRED, who is on what, SNOW, OIL, MINUTE, X, BOOK are as ahead of it;");
        RockingGuard g = Scene.horses(2, 2, 2, 2, 2, 2, 2, 2);
        for (int b = 0; b < 6; b++) g.boy(5);
        g.mount(0, 0);
        g.mount(5, 7);
        g.minute(1);
        g.undo();
        Due.is("WEAR of the first", g.ofHorse(0, 2), 0);
        Due.is("WEAR of the last", g.ofHorse(7, 2), 0);
        Due.is("TIRED of the first", g.ofBoy(0, 1), 0);
        Due.is("TIRED of the last", g.ofBoy(5, 1), 0);
        g.nail(0, 1);
        g.nail(7, 1);
        g.undo();
        g.undo();
        Due.is("SHIFT of the first", g.ofHorse(0, 1), 0);
        Due.is("SHIFT of the last", g.ofHorse(7, 1), 0);
    }

    // ==== ROCKS, MOUNTS, OFF, OILED, NAILED

    static void rocksWithABoyAlone() {
        Said.at("I", "ROCKS at a MINUTE: a HORSE with a boy on it,");
        RockingGuard g = Scene.horses(1);
        g.boy(5);
        Due.is("without a boy", g.ofHorse(0, 4), 0);
        g.mount(0, 0);
        Due.is("with a boy", g.ofHorse(0, 4), 1);
        g.off(0);
        Due.is("without one again", g.ofHorse(0, 4), 0);
    }

    static void rocksBelow99() {
        Said.at("I", "whose WEAR is below 99,");
        RockingGuard almost = Scene.worn(98);
        Due.is("WEAR", almost.ofHorse(0, 2), 98);
        Due.is("98 rocks", almost.ofHorse(0, 4), 1);
        RockingGuard out = Scene.worn(99);
        Due.is("WEAR", out.ofHorse(0, 2), 99);
        Due.is("99 doesn't", out.ofHorse(0, 4), 0);
        out.minute(1);
        Due.is("nor tires it him", out.ofBoy(0, 1), 0);
        Due.is("nor comes SNOW of it", out.is(1), 11);
    }

    static void rocksAtMultiples() {
        Said.at("I", "if MINUTE less SHIFT is a multiple of BEAT.");
        RockingGuard g = new RockingGuard();
        g.horse(4, 3);
        g.boy(5);
        g.mount(0, 0);
        int[] want = {0, 0, 0, 1, 0, 0, 0, 1, 0};
        for (int m = 0; m < want.length; m++) Due.is("rocking(" + m + ")", g.rocking(m), want[m]);
        Due.is("9999 less 3 is 4 * 2499", g.rocking(9999), 1);
        Due.is("9998", g.rocking(9998), 0);
        RockingGuard always = Scene.ridden(1);
        Due.is("0 is a multiple", always.rocking(0), 1);
        Due.is("BEAT 1", always.rocking(9998), 1);
    }

    static void mountsWhoIsOnNone() {
        Said.at("I", "MOUNTS: a boy who is on none,");
        RockingGuard g = Scene.horses(2, 3);
        g.boy(5);
        Due.is("on none", g.mount(0, 0), true);
        Due.is("on one", g.mount(0, 1), false);
        Due.is("he stays on it", g.ofBoy(0, 2), 0);
        Due.is("on that one", g.mount(0, 0), false);
    }

    static void mountsBelowNine() {
        Said.at("I", "TIRED below 9,");
        RockingGuard weary = Scene.tired(9);
        Due.is("TIRED", weary.ofBoy(0, 1), 9);
        Due.is("9", weary.mount(0, 0), false);
        weary.minute(1);
        Due.is("TIRED one less", weary.ofBoy(0, 1), 8);
        Due.is("8", weary.mount(0, 0), true);
    }

    static void mountsOneWithout() {
        Said.at("I", "a HORSE without one.");
        RockingGuard g = Scene.ridden(2);
        g.boy(7);
        Due.is("with a boy", g.mount(1, 0), false);
        g.off(0);
        Due.is("without one", g.mount(1, 0), true);
        Due.is("the boy on it", g.ofHorse(0, 3), 1);
    }

    static void offWhoIsOnOne() {
        Said.at("I", "OFF: a boy who is on one.");
        RockingGuard g = Scene.horses(2, 3);
        g.boy(5);
        Due.is("on none", g.off(0), -1);
        g.mount(0, 1);
        Due.is("on one", g.off(0), 1);
        Due.is("he is on none", g.ofBoy(0, 2), -1);
        Due.is("once more", g.off(0), -1);
    }

    static void oiledWhileThereIsOil() {
        Said.at("I", "OILED: a HORSE, if OIL is 1 at least: OIL is one less, WEAR 0.");
        RockingGuard g = Scene.worn(40);
        for (int i = 0; i < 8; i++) g.oil(0);
        Due.is("WEAR is 0 by the first", g.ofHorse(0, 2), 0);
        Due.is("OIL", g.is(3), 1);
        g.minute(2);
        Due.is("WEAR", g.ofHorse(0, 2), 2);
        Due.is("the last", g.oil(0), 0);
        Due.is("WEAR", g.ofHorse(0, 2), 0);
        g.minute(1);
        Due.is("none is left", g.oil(0), -1);
        Due.is("WEAR stays", g.ofHorse(0, 2), 1);
        RockingGuard none = new RockingGuard();
        Due.is("no HORSE", none.oil(0), -1);
        Due.is("OIL stays", none.is(3), 9);
    }

    static void nailedToAnother() {
        Said.at("I", "NAILED: SHIFT of a HORSE is another number (below BEAT).");
        RockingGuard g = Scene.horses(5);
        Due.is("the same number", g.nail(0, 0), false);
        Due.is("BEAT itself", g.nail(0, 5), false);
        Due.is("below 0", g.nail(0, -1), false);
        Due.is("SHIFT stays", g.ofHorse(0, 1), 0);
        Due.is("the highest", g.nail(0, 4), true);
        Due.is("SHIFT", g.ofHorse(0, 1), 4);
        Due.is("0 again", g.nail(0, 0), true);
        Due.is("SHIFT", g.ofHorse(0, 1), 0);
    }

    // ==== A MINUTE

    static void minuteWearsThoseThatRock() {
        Said.at("I", "A MINUTE: HORSES that ROCK (as all is at first) by number: WEAR is more by wears (99 at most);");
        RockingGuard g = Scene.ridden(1, 2, 3);
        g.horse(1, 0);
        Due.rule(g, "wears rocking+horse;tires 9;");
        g.minute(1);
        // All three rocked, though all boys are off by this MINUTE; the fourth has no boy.
        Due.is("WEAR of 0", g.ofHorse(0, 2), 3);
        Due.is("WEAR of 1", g.ofHorse(1, 2), 4);
        Due.is("WEAR of 2", g.ofHorse(2, 2), 5);
        Due.is("WEAR of 3", g.ofHorse(3, 2), 0);
        Due.is("all are off", g.unmanned(), 0);
        RockingGuard last = Scene.worn(98);
        Due.rule(last, "wears 9;tires 0;");
        last.minute(1);
        Due.is("98 and 9", last.ofHorse(0, 2), 99);
        RockingGuard just = Scene.worn(98);
        just.minute(1);
        Due.is("98 and 1", just.ofHorse(0, 2), 99);
    }

    static void minuteTiresThoseOnOne() {
        Said.at("I", "BOYS on one by number: TIRED is more by tires (9 at most): at 9 he is OFF (TIRED stays);");
        RockingGuard g = Scene.ridden(1, 1, 1);
        Due.rule(g, "tires 7+who;");
        g.minute(1);
        int[] tired = {7, 8, 9};
        int[] seat = {0, 1, -1};
        for (int b = 0; b < 3; b++) {
            Due.is("TIRED of " + b, g.ofBoy(b, 1), tired[b]);
            Due.is("the horse of " + b, g.ofBoy(b, 2), seat[b]);
        }
        g.minute(1);
        Due.is("7 and 7: 9 at most", g.ofBoy(0, 1), 9);
        Due.is("OFF at 9", g.ofBoy(0, 2), -1);
        Due.is("8 and 8: 9 at most", g.ofBoy(1, 1), 9);
        Due.is("no boy on it", g.ofHorse(1, 3), -1);
    }

    static void minuteOffIsNoStepOfItsOwn() {
        Said.at("I", "at 9 he is OFF (TIRED stays);");
        RockingGuard g = Scene.ridden(1);
        g.minute(9);
        Due.is("TIRED stays at 9", g.ofBoy(0, 1), 9);
        Due.is("a mount and nine MINUTES", g.about(4), 10);
        g.undo();
        Due.is("on it ahead of the ninth", g.ofBoy(0, 2), 0);
        Due.is("TIRED ahead of the ninth", g.ofBoy(0, 1), 8);
    }

    static void minuteRestsThoseOnNone() {
        Said.at("I", "BOYS who were on none at first: TIRED one less (0 at least).");
        RockingGuard g = Scene.tired(2);
        g.off(0);
        int[] want = {1, 0, 0};
        for (int tired : want) {
            g.minute(1);
            Due.is("TIRED", g.ofBoy(0, 1), tired);
        }
        RockingGuard falls = Scene.tired(8);
        falls.minute(1);
        Due.is("one who was on it at first isn't one less", falls.ofBoy(0, 1), 9);
        falls.minute(1);
        Due.is("in the next he is", falls.ofBoy(0, 1), 8);
    }

    static void minuteSnows() {
        Said.at("I", "SNOW is 1 more for each that ROCKED (999 at most);");
        RockingGuard g = Scene.ridden(1, 1, 2);
        Due.rule(g, "wears 0;tires 0;");
        g.minute(1);
        Due.is("three", g.is(1), 3);
        g.minute(1);
        Due.is("two", g.is(1), 5);
        // 198 pairs of MINUTES make 5 each.
        Scene.pass(g, 396);
        Due.is("SNOW", g.is(1), 995);
        g.minute(1);
        Due.is("three more", g.is(1), 998);
        g.minute(1);
        Due.is("two more, 999 at most", g.is(1), 999);
        g.limit(1);
        g.minute(1);
        Due.is("what slides is 999 at most", g.book(0, 1), 999);
    }

    static void minuteSlides() {
        Said.at("I", "if LIMIT or more ROCKED: a slide: written down, SNOW is 0.");
        RockingGuard g = Scene.ridden(1, 1, 1);
        g.limit(4);
        Due.is("three of four", g.minute(1), 0);
        Due.is("no slide", g.book(-1, 0), 0);
        Due.is("SNOW stays", g.is(1), 3);
        g.limit(3);
        Due.is("three of three", g.minute(1), 1);
        Due.is("written down", g.book(-1, 0), 1);
        Due.is("SNOW with that of this MINUTE", g.book(0, 1), 6);
        Due.is("at its MINUTE", g.book(0, 0), 1);
        Due.is("SNOW is 0", g.is(1), 0);
        g.limit(2);
        Due.is("three of two", g.minute(1), 1);
        RockingGuard still = Scene.horses(1);
        still.limit(1);
        Due.is("none rocked", still.minute(1), 0);
    }

    static void minuteEndsAt9999() {
        Said.at("I", "MINUTE is one more (at 9999 none can pass).");
        RockingGuard g = new RockingGuard();
        g.minute(1);
        Due.is("one more", g.is(0), 1);
        Scene.pass(g, 9997);
        Due.is("9998", g.is(0), 9998);
        Due.is("one can pass", g.minute(1), 0);
        Due.is("9999", g.is(0), 9999);
        Due.is("none can pass", g.minute(1), -1);
    }

    // ==== STEPS

    static void stepsAreThese() {
        Said.at("I", "STEPS: MOUNTS, OFF, OILED, NAILED, a MINUTE (each), WINTERS (see V):");
        RockingGuard g = Scene.horses(2);
        g.boy(5);
        Due.is("none yet", g.about(4), 0);
        g.mount(0, 0);
        Due.is("MOUNTS", g.about(4), 1);
        g.off(0);
        Due.is("OFF", g.about(4), 2);
        g.oil(0);
        Due.is("OILED", g.about(4), 3);
        g.nail(0, 1);
        Due.is("NAILED", g.about(4), 4);
        g.minute(3);
        Due.is("three MINUTES", g.about(4), 7);
        g.winters(0, 40);
        Due.is("WINTERS", g.about(4), 8);
    }

    static void othersAreNoSteps() {
        Said.at("I", "STEPS: MOUNTS, OFF, OILED, NAILED, a MINUTE (each), WINTERS (see V):");
        RockingGuard g = new RockingGuard();
        g.horse(2, 0);
        g.boy(5);
        g.limit(4);
        Due.text(g, "seen 1;");
        g.by(0);
        g.heard(0, 1);
        g.watch(0, 1, 9);
        g.haul(5);
        g.counted(1, 1);
        g.image();
        Due.is("what is told", g.about(4), 0);
        g.off(0);
        g.nail(0, 0);
        g.minute(61);
        g.winters(-1, 1);
        g.mount(0, 1);
        g.oil(1);
        Due.is("what is refused", g.about(4), 0);
    }

    static void thirtyStepsCanBeTakenBack() {
        Said.at("I", "the latest 30 can be taken back,");
        RockingGuard g = Scene.horses(9);
        for (int i = 1; i <= 31; i++) g.nail(0, i % 9);
        Due.is("thirty", g.about(4), 30);
        for (int left = 29; left >= 0; left--) Due.is("undo()", g.undo(), left);
        Due.is("a 31st", g.undo(), -1);
        Due.is("the first nail stays", g.ofHorse(0, 1), 1);
        RockingGuard less = Scene.horses(9);
        for (int i = 1; i <= 30; i++) less.nail(0, i % 9);
        for (int left = 29; left >= 0; left--) Due.is("undo()", less.undo(), left);
        Due.is("all of thirty", less.ofHorse(0, 1), 0);
        Due.is("none", less.undo(), -1);
    }

    static void theLatestFirst() {
        Said.at("I", "the latest first");
        RockingGuard g = Scene.horses(9);
        // More than thirty, so that what is kept has come round.
        for (int i = 1; i <= 40; i++) g.nail(0, i % 9);
        for (int i = 39; i >= 37; i--) {
            g.undo();
            Due.is("SHIFT", g.ofHorse(0, 1), i % 9);
        }
        g.nail(0, 8);
        g.undo();
        Due.is("SHIFT ahead of the latest", g.ofHorse(0, 1), 37 % 9);
        g.undo();
        Due.is("SHIFT ahead of the one before", g.ofHorse(0, 1), 36 % 9);
    }

    static void takenBackIsAll() {
        Said.at("I", "(SHIFTS, WEAR, TIRED, who is on what, SNOW, OIL, MINUTE, X, BOOK are as ahead of it;");
        RockingGuard g = Scene.ridden(1, 3);
        g.limit(2);
        g.nail(1, 2);
        g.undo();
        Due.is("SHIFT", g.ofHorse(1, 1), 0);
        g.minute(1);
        g.undo();
        Due.is("WEAR", g.ofHorse(0, 2), 0);
        Due.is("TIRED", g.ofBoy(0, 1), 0);
        Due.is("MINUTE", g.is(0), 0);
        Due.is("BOOK", g.book(-1, 0), 0);
        g.limit(8);
        g.minute(2);
        g.undo();
        Due.is("SNOW", g.is(1), 2);
        g.oil(0);
        g.undo();
        Due.is("OIL", g.is(3), 9);
        Due.is("WEAR ahead of the oil", g.ofHorse(0, 2), 1);
        g.off(0);
        g.undo();
        Due.is("who is on 0", g.ofHorse(0, 3), 0);
        g.winters(4, 1);
        g.undo();
        Due.is("X", g.is(4), 151);
        g.winters(8, 1);
        int x = g.is(4);
        g.winters(9, 1);
        g.undo();
        Due.is("X of the winter before", g.is(4), x);
    }

    static void takenBackIsTheFullBook() {
        Said.at("I", "BOOK are as ahead of it;");
        RockingGuard g = Scene.ridden(1);
        Due.rule(g, "tires 0;");
        g.limit(1);
        g.minute(31);
        Due.is("the eldest of thirty", g.book(0, 0), 1);
        g.undo();
        Due.is("the one that was pushed out is there again", g.book(0, 0), 0);
        Due.is("thirty yet", g.book(-1, 0), 30);
        Due.is("the latest", g.book(29, 0), 29);
        g.undo();
        Due.is("29", g.book(-1, 0), 29);
    }

    static void toldSinceIsAsTold() {
        Said.at("I", "HORSES, BOYS told since are as told;");
        RockingGuard g = Scene.horses(3);
        g.minute(1);
        g.horse(5, 4);
        g.boy(8);
        g.nail(1, 0);
        g.mount(0, 1);
        g.minute(5);
        for (int i = 0; i < 8; i++) g.undo();
        Due.is("all is taken back", g.about(4), 0);
        Due.is("two HORSES", g.about(0), 2);
        Due.is("BEAT", g.ofHorse(1, 0), 5);
        Due.is("SHIFT", g.ofHorse(1, 1), 4);
        Due.is("WEAR", g.ofHorse(1, 2), 0);
        Due.is("none on it", g.ofHorse(1, 3), -1);
        Due.is("one boy", g.about(1), 1);
        Due.is("SIZE", g.ofBoy(0, 0), 8);
        Due.is("TIRED", g.ofBoy(0, 1), 0);
        Due.is("on none", g.ofBoy(0, 2), -1);
        Due.is("the next HORSE", g.horse(2, 1), 2);
        Due.is("the next boy", g.boy(2), 1);
    }

    static void limitStays() {
        Said.at("I", "LIMIT stays).");
        RockingGuard g = Scene.horses(2);
        g.minute(1);
        g.limit(7);
        g.minute(1);
        g.undo();
        g.undo();
        Due.is("LIMIT", g.is(2), 7);
        Due.is("MINUTE", g.is(0), 0);
    }
}
