/** What texts say: sums, asks, the three laws, and texts that are played. */
public final class LawTest {
    public static void main(String[] args) {
        sums();
        caps();
        asks();
        beats();
        wears();
        tires();
        seen();
        lawsInAMinute();
        played();
        playedMinutes();
        Due.close();
    }

    private static void seenIs(String sum, int want) {
        RockingGuard g = new RockingGuard();
        g.horse(4, 0);
        g.horse(7, 2);
        Due.rule(g, "seen " + sum + ";");
        Due.is("seen " + sum, g.is(5), want);
    }

    private static void holds(String ask, boolean want) {
        seenIs("if " + ask + " then 11 else 22 end", want ? 11 : 22);
    }

    private static void sums() {
        seenIs("2+3*4", 14);
        seenIs("(2+3)*4", 20);
        seenIs("20-3-4", 13);
        seenIs("20-(3-4)", 21);
        seenIs("90/7/2", 6);
        seenIs("90/(7/2)", 30);
        seenIs("1/2*80", 0);
        seenIs("80*1/2", 40);
        seenIs("-7/2+10", 7);
        seenIs("7/-2+10", 7);
        seenIs("-7/-2", 3);
        seenIs("7/0+5", 5);
        seenIs("0/0+5", 5);
        seenIs("-7/0+5", 5);
        seenIs("10--3", 13);
        seenIs("-2*-3", 6);
        seenIs("sign 9+sign -9*3+sign 0+5", 3);
        seenIs("sign(3-5)+5", 4);
        seenIs("sign 1", 1);
        seenIs("sign-1+1", 0);
        seenIs("sign 7*9", 9);
        seenIs("-sign -4", 1);
        seenIs("if 1<2 then 3 else 4 end*10", 30);
        seenIs("if 2<1 then 3 else 4 end+if 1<2 then 50 else 60 end", 54);
        seenIs("if if 1<2 then 3 else 4 end=3 then if 1>2 then 5 else 6 end else 7 end", 6);
        seenIs("if 2<1 then if 1<2 then 5 else 6 end else if 1<2 then 8 else 9 end end", 8);
        seenIs("100", 99);
        seenIs("99", 99);
        seenIs("-1", 0);
    }

    private static void caps() {
        seenIs("9999*9999/9999", 99);
        seenIs("9999*9999/9999-50", 50);
        seenIs("1000*1000+5-1000*1000", 0);
        seenIs("1000*1000+5-9999*100", 99);
        seenIs("(1000*1000+5-9999*100)/10", 10);
        seenIs("0-9999*9999+9999*9999+7", 7);
        seenIs("-9999*9999-9999+1000*1000+33", 33);
        seenIs("1000*1000*1000/1000/20", 50);
        seenIs("-1000*1000*1000/1000/-20", 50);
        seenIs("1000*1000*-(1000*1000)/-1000/20", 50);
    }

    private static void asks() {
        holds("6 meets 4", true);
        holds("9 meets 4", false);
        holds("-6 meets 4", true);
        holds("6 meets -9", true);
        holds("0 meets 1", false);
        holds("0 meets -1", false);
        holds("-1 meets 0", false);
        holds("0 meets 0", true);
        holds("0 meets 5", true);
        holds("5 meets 0", true);
        holds("1 meets 1", false);
        holds("1 meets 7", false);
        holds("7 meets 7", true);
        holds("3+3 meets 2*5", true);
        holds("1<2", true);
        holds("2<2", false);
        holds("2<=2", true);
        holds("3<=2", false);
        holds("2>2", false);
        holds("3>2", true);
        holds("2>=2", true);
        holds("1>=2", false);
        holds("2=2", true);
        holds("-2=2", false);
        holds("2#2", false);
        holds("-2#2", true);
        holds("not 1=2", true);
        holds("not not 1=2", false);
        holds("not 1=2 and 1=1", true);
        holds("1=1 and not 1=2", true);
        holds("not 1=2 and 1=2", false);
        holds("not 1=1 or 1=1", true);
        holds("1=1 or 1=2 and 1=2", true);
        holds("1=2 and 1=2 or 1=1", true);
        holds("1=1 and 1=2 or 1=2", false);
        holds("1=1 or 1=1", true);
        holds("1=2 or 1=2 or 1=1", true);
        holds("1=1 and 1=1 and 1=2", false);
    }

    private static void beats() {
        seenIs("beat 0", 4);
        seenIs("beat 1", 7);
        seenIs("beat 2", 0);
        seenIs("beat -1+3", 3);
        seenIs("beat 7", 0);
        seenIs("beat 8", 0);
        seenIs("beat 9999", 0);
        seenIs("beat(3-2)*10+beat 0", 74);
        seenIs("beat beat 0", 0);
        seenIs("beat sign 5", 7);
    }

    private static int wearsOf(String sum, int horse, int boys) {
        RockingGuard g = new RockingGuard();
        for (int i = 0; i < 4; i++) g.horse(1, 0);
        for (int i = 0; i < boys; i++) {
            g.boy(4 + i);
            g.mount(i, 3 - i);
        }
        Due.rule(g, "wears " + sum + ";");
        return g.ofHorse(horse, 5);
    }

    private static void wears() {
        Due.is("wears horse", wearsOf("horse", 3, 0), 3);
        Due.is("wears rider+5 without one", wearsOf("rider+5", 3, 0), 4);
        Due.is("wears rider+5", wearsOf("rider+5", 2, 2), 6);
        Due.is("wears size", wearsOf("size", 2, 2), 5);
        Due.is("wears size+1 without one", wearsOf("size+1", 0, 2), 1);
        Due.is("wears rocking", wearsOf("rocking", 0, 3), 3);
        Due.is("wears -1", wearsOf("-1", 0, 0), 0);
        Due.is("wears 10", wearsOf("10", 0, 0), 9);
        Due.is("wears wear+minute+snow", wearsOf("wear+minute+snow+2", 0, 0), 2);
        RockingGuard g = new RockingGuard();
        g.horse(1, 0);
        Due.is("without a law", g.ofHorse(0, 5), 1);
        Due.rule(g, "tires 5;");
        Due.is("without that law", g.ofHorse(0, 5), 1);
    }

    private static void tires() {
        RockingGuard g = new RockingGuard();
        g.horse(2, 1);
        g.horse(1, 0);
        g.boy(6);
        g.boy(7);
        g.boy(8);
        g.mount(1, 0);
        g.mount(2, 1);
        Due.is("on none", g.ofBoy(0, 3), 0);
        Due.is("on one that does not rock", g.ofBoy(1, 3), 0);
        Due.is("on one that rocks", g.ofBoy(2, 3), 1);
        String[] sums = {"who+1", "rider+2", "size", "horse+4", "tired+3", "rocking+6", "wear+1", "0-1", "11", "minute+snow"};
        int[] second = {2, 3, 7, 4, 3, 7, 1, 0, 9, 0};
        int[] third = {3, 4, 8, 5, 3, 7, 1, 0, 9, 0};
        Due.rule(g, "tires tired*2+1;");
        g.image();
        g.minute(2);
        Due.is("1, then 2 * 1 + 1 more", g.ofBoy(2, 1), 4);
        Due.is("tires tired*2+1", g.ofBoy(2, 3), 9);
        for (int i = 0; i < sums.length; i++) {
            g.back();
            Due.rule(g, "tires " + sums[i] + ";");
            Due.is("tires " + sums[i] + " on none", g.ofBoy(0, 3), 0);
            Due.is("tires " + sums[i], g.ofBoy(1, 3), second[i]);
            Due.is("tires " + sums[i], g.ofBoy(2, 3), third[i]);
        }
    }

    private static void seen() {
        RockingGuard g = new RockingGuard();
        g.limit(8);
        for (int i = 0; i < 3; i++) {
            g.horse(1, 0);
            g.boy(5);
            g.mount(i, i);
        }
        Due.is("8 times rocking", g.is(5), 24);
        g.minute(2);
        Due.rule(g, "wears 1;");
        Due.is("8 times rocking without that law", g.is(5), 24);
        Due.rule(g, "seen rocking*20+snow+minute*10;");
        Due.is("rocking 3, snow 6, minute 2", g.is(5), 86);
    }

    private static void lawsInAMinute() {
        RockingGuard g = new RockingGuard();
        g.limit(8);
        g.horse(1, 0);
        g.horse(1, 0);
        g.horse(2, 1);
        g.boy(5);
        g.boy(7);
        g.boy(3);
        g.mount(0, 1);
        g.mount(1, 0);
        g.mount(2, 2);
        Due.rule(g, "wears 5-horse+snow;tires if horse=2 then 3 else wear-tired end;");
        g.minute(1);
        Due.is("wear of the first", g.ofHorse(0, 2), 5);
        Due.is("wear of the second", g.ofHorse(1, 2), 4);
        Due.is("wear of one that did not rock", g.ofHorse(2, 2), 0);
        Due.is("tires sees what the horses' turn left", g.ofBoy(0, 1), 4);
        Due.is("tires sees what the horses' turn left", g.ofBoy(1, 1), 5);
        Due.is("tires is asked of each who rides", g.ofBoy(2, 1), 3);
        Due.is("snow", g.is(1), 2);
        g.minute(1);
        Due.is("5 - 0 + snow 2 more", g.ofHorse(0, 2), 12);
        Due.is("5 - 1 + snow 2 more", g.ofHorse(1, 2), 10);
        Due.is("5 - 2 + snow 2 more", g.ofHorse(2, 2), 5);
        Due.is("10 - 4 more, 9 at most", g.ofBoy(0, 1), 9);
        Due.is("he is off", g.ofBoy(0, 2), -1);
        Due.is("6", g.ofBoy(2, 1), 6);
        RockingGuard worn = new RockingGuard();
        worn.horse(1, 0);
        worn.boy(1);
        Due.rule(worn, "wears 9;tires 0;");
        worn.mount(0, 0);
        worn.minute(11);
        Due.is("eleven nines", worn.ofHorse(0, 2), 99);
        Due.is("it rocks no more", worn.ofHorse(0, 4), 0);
        worn.by(-1);
        worn.undo();
        Due.is("the last turn", worn.ofHorse(0, 2), 90);
        Due.rule(worn, "wears 9;");
        worn.minute(1);
        Due.is("worn out in that minute", worn.ofHorse(0, 2), 99);
        Due.is("he tires, since it rocked at first", worn.ofBoy(0, 1), 1);
    }

    private static void played() {
        RockingGuard g = new RockingGuard();
        Due.is("15: no texts", g.played(0), -2);
        Due.text(g, "wears 2;horse 2 shift 0;boy 4;seen 5;mount 0 on 0;minute 3;off 0;nail 0 to 1;oil 0;limit 6;tires 1;");
        Due.text(g, "boy 5;nail 0 to 1;boy 6;");
        Due.text(g, "");
        for (int t : new int[] {-1, 3, -2, Integer.MAX_VALUE, Integer.MIN_VALUE}) Due.is("15: played(" + t + ")", g.played(t), -2);
        Due.is("15: all is done", g.played(0), -1);
        Due.is("15: its laws did not rule", g.is(5), 0);
        Due.is("15: minutes", g.is(0), 3);
        Due.is("15: rocked twice", g.is(1), 2);
        Due.is("15: nailed", g.ofHorse(0, 1), 1);
        Due.is("15: oiled", g.is(3), 8);
        Due.is("15: limit", g.is(2), 6);
        Due.is("15: each a step by itself", g.about(4), 7);
        Due.is("15: nailed so already", g.played(1), 1);
        Due.is("15: what was done stays", g.about(1), 2);
        Due.is("15: nothing", g.played(2), -1);
        Due.is("15: once more, up to the nail that is so", g.played(0), 7);
        RockingGuard many = new RockingGuard();
        Due.text(many, "horse 1 shift 0;horse 1 shift 0;horse 1 shift 0;");
        Due.is("15: three", many.played(0), -1);
        Due.is("15: six", many.played(0), -1);
        Due.is("15: a ninth", many.played(0), 2);
        Due.is("15: eight", many.about(0), 8);
        Due.text(many, "limit 1;boy 1;boy 1;boy 1;boy 1;boy 1;boy 1;boy 1;limit 2;");
        Due.is("15: a seventh boy", many.played(1), 7);
        Due.is("15: the first limit stays", many.is(2), 1);
        Due.text(many, "nail 0 to 1;");
        Due.is("15: a shift that is not below beat", many.played(2), 0);
        Due.text(many, "mount 0 on 0;mount 1 on 0;");
        Due.is("15: a seat that is taken", many.played(3), 1);
    }

    private static void playedMinutes() {
        RockingGuard g = new RockingGuard();
        Due.text(g, "minute 60;".repeat(24));
        for (int i = 0; i < 6; i++) Due.is("15: 1440 minutes", g.played(0), -1);
        Due.is("15: 8640", g.is(0), 8640);
        Due.is("15: the 23rd can't be all", g.played(0), 22);
        Due.is("15: those that can pass do", g.is(0), 9999);
        Due.is("15: none can", g.played(0), 0);
        Due.is("15: thirty steps", g.about(4), 30);
        Due.is("15: one back", g.undo(), 29);
        Due.is("15: 9998", g.is(0), 9998);
        Due.is("15: one passes", g.played(0), 0);
        Due.is("15: 9999", g.is(0), 9999);
    }
}
