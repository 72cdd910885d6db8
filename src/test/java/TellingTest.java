/** Promises 1 to 9: what is told, the tape and the texts. */
public final class TellingTest {
    public static void main(String[] args) {
        newObject();
        horses();
        boys();
        limits();
        feeding();
        cutting();
        texts();
        faultsAsked();
        ruling();
        readAnew();
        tokens();
        faultOne();
        faultTwo();
        faultThree();
        faultFourToSix();
        leastFault();
        Due.close();
    }

    private static void newObject() {
        RockingGuard g = new RockingGuard();
        int[] about = {0, 0, 0, -1, 0, 0, 0, 0, 0, 0};
        int[] is = {0, 0, 3, 9, 151, 0, 0};
        for (int i = 0; i < about.length; i++) Due.is("1: about(" + i + ")", g.about(i), about[i]);
        for (int i = 0; i < is.length; i++) Due.is("1: is(" + i + ")", g.is(i), is[i]);
        Due.is("1: book(NONE, 0)", g.book(RockingGuard.NONE, 0), 0);
        g.horse(3, 1);
        g.boy(4);
        g.limit(7);
        g.minute(5);
        g.winters(9, 3);
        g.haul(5);
        Due.text(g, "boy 5;");
        g.by(0);
        Due.is("1: back() to the first image", g.back(), 0);
        for (int i = 0; i < about.length; i++) Due.is("1: about(" + i + ") once back", g.about(i), about[i]);
        for (int i = 0; i < is.length; i++) Due.is("1: is(" + i + ") once back", g.is(i), is[i]);
    }

    private static void horses() {
        RockingGuard g = new RockingGuard();
        int[][] others = {{0, 0}, {10, 0}, {-1, 0}, {5, 5}, {5, 6}, {5, -1}, {1, 1}, {9, 9}, {Integer.MAX_VALUE, 3}, {Integer.MIN_VALUE, Integer.MIN_VALUE}};
        for (int[] o : others) Due.is("2: horse(" + o[0] + ", " + o[1] + ")", g.horse(o[0], o[1]), -1);
        Due.is("2: none is told", g.about(0), 0);
        for (int i = 0; i < 8; i++) Due.is("2: horse " + i, g.horse(i + 2, i + 1), i);
        Due.is("2: a ninth", g.horse(2, 1), -1);
        for (int i = 0; i < 8; i++) {
            Due.is("2: beat of " + i, g.ofHorse(i, 0), i + 2);
            Due.is("2: shift of " + i, g.ofHorse(i, 1), i + 1);
            Due.is("2: wear of " + i, g.ofHorse(i, 2), 0);
        }
        Due.is("2: telling is no step", g.about(4), 0);
    }

    private static void boys() {
        RockingGuard g = new RockingGuard();
        for (int size : new int[] {0, 10, -1, Integer.MAX_VALUE, Integer.MIN_VALUE}) Due.is("3: boy(" + size + ")", g.boy(size), -1);
        int[] sizes = {1, 9, 5, 5, 3, 8};
        for (int i = 0; i < 6; i++) Due.is("3: boy " + i, g.boy(sizes[i]), i);
        Due.is("3: a seventh", g.boy(4), -1);
        for (int i = 0; i < 6; i++) {
            Due.is("3: size of " + i, g.ofBoy(i, 0), sizes[i]);
            Due.is("3: tired of " + i, g.ofBoy(i, 1), 0);
            Due.is("3: seat of " + i, g.ofBoy(i, 2), -1);
        }
    }

    private static void limits() {
        RockingGuard g = new RockingGuard();
        for (int n : new int[] {0, 9, -1, Integer.MAX_VALUE, Integer.MIN_VALUE}) {
            Due.is("4: limit(" + n + ")", g.limit(n), false);
            Due.is("4: it stays", g.is(2), 3);
        }
        for (int n : new int[] {1, 8, 5}) {
            Due.is("4: limit(" + n + ")", g.limit(n), true);
            Due.is("4: it is told", g.is(2), n);
        }
    }

    private static void feeding() {
        RockingGuard g = new RockingGuard();
        for (int i = 1; i <= 15; i++) Due.is("5: feed", g.feed(0x20202020, 0x20202020, 0x0a0a0a0a, 0x20202020, 0x20202020), 20 * i);
        Due.is("5: a feed beyond 300", g.feed(1, 2, 3, 4, 5), -1);
        Due.is("5: none of it came", g.about(9), 300);
        Due.is("5: blanks alone are a text", g.text(), 0);
        Due.is("5: bytes in a row", g.feed(0x626f7920, 0x393b0000, 0, 0, 0x000000ff), 20);
        g.end(6);
        Due.is("5: the highest first", g.text(), 1);
        Due.is("5: boy 9;", g.played(1), -1);
        Due.is("5: boy 9;", g.ofBoy(0, 0), 9);
        g.end(0);
        g.feed(0, 0, 0, 0, 0);
        g.end(1);
        Due.is("5: a tape of 281 takes none", feedBehind(g, 281), -1);
        Due.is("5: a tape of 280 takes twenty", feedBehind(g, 280), 300);
    }

    private static int feedBehind(RockingGuard g, int bytes) {
        g.end(0);
        for (int i = 0; i < 15; i++) g.feed(0, 0, 0, 0, 0);
        g.end(bytes);
        return g.feed(0, 0, 0, 0, 0);
    }

    private static void cutting() {
        RockingGuard g = new RockingGuard();
        Due.is("6: end(0) of an empty tape", g.end(0), 0);
        Due.is("6: end(1) of an empty tape", g.end(1), -1);
        g.feed(0, 0, 0, 0, 0);
        Due.is("6: end(21)", g.end(21), -1);
        Due.is("6: end(-1)", g.end(-1), -1);
        Due.is("6: end(MIN)", g.end(Integer.MIN_VALUE), -1);
        Due.is("6: nothing was done", g.about(9), 20);
        Due.is("6: end(20)", g.end(20), 20);
        Due.is("6: end(7)", g.end(7), 7);
        Due.is("6: end(8)", g.end(8), -1);
        Due.is("6: seven bytes", g.about(9), 7);
    }

    private static void texts() {
        RockingGuard g = new RockingGuard();
        Due.is("7: an empty tape", g.text(), 0);
        Due.is("7: a text", Due.text(g, "boy 3;"), 1);
        Due.is("7: the tape is empty then", g.about(9), 0);
        Due.is("7: a fault", Due.text(g, "boy 0;"), -1);
        Due.is("7: the tape is empty then, too", g.about(9), 0);
        Due.is("7: two texts", g.about(2), 2);
        Due.is("7: a text", Due.text(g, "boy 4;"), 2);
        Due.is("7: a text", Due.text(g, "boy 5;"), 3);
        g.fault(0);
        Due.is("7: a fifth", Due.text(g, "boy 0;"), -1);
        Due.is("7: the tape stays", g.about(9), 6);
        Due.is("7: it was not read", g.fault(0), 0);
        g.played(1);
        g.played(3);
        Due.is("7: each its own", g.ofBoy(0, 0), 3);
        Due.is("7: each its own", g.ofBoy(1, 0), 5);
    }

    private static void faultsAsked() {
        RockingGuard g = new RockingGuard();
        Due.is("8: ahead of any", g.fault(0), -1);
        Due.is("8: ahead of any", g.fault(1), -1);
        Due.text(g, "boy 0;");
        Due.is("8: its fault", g.fault(0), 2);
        Due.is("8: its place", g.fault(1), 4);
        for (int what : new int[] {-1, 2, Integer.MAX_VALUE, Integer.MIN_VALUE}) Due.is("8: fault(" + what + ")", g.fault(what), -1);
        g.image();
        Due.text(g, "boy 1;");
        Due.is("8: without", g.fault(0), 0);
        Due.is("8: without", g.fault(1), -1);
        Due.text(g, "boy 11; x");
        g.back();
        Due.is("8: an image has no fault", g.fault(0), 2);
        Due.is("8: an image has no place", g.fault(1), 4);
    }

    private static void ruling() {
        RockingGuard g = new RockingGuard();
        Due.is("9: by(0) without texts", g.by(0), false);
        Due.is("9: by(NONE)", g.by(-1), true);
        Due.text(g, "seen 7;");
        Due.text(g, "seen 9;");
        Due.is("9: none rules yet", g.is(5), 0);
        for (int t : new int[] {2, 4, -2, Integer.MAX_VALUE, Integer.MIN_VALUE}) Due.is("9: by(" + t + ")", g.by(t), false);
        Due.is("9: by(1)", g.by(1), true);
        Due.is("9: it rules", g.is(5), 9);
        Due.is("9: about", g.about(3), 1);
        Due.is("9: by(2)", g.by(2), false);
        Due.is("9: the same rules", g.about(3), 1);
        Due.is("9: by(0)", g.by(0), true);
        Due.is("9: it rules", g.is(5), 7);
        Due.is("9: by(NONE)", g.by(-1), true);
        Due.is("9: none rules", g.is(5), 0);
        Due.is("9: none rules", g.about(3), -1);
    }

    /** What was read up to a fault leaves nothing behind. */
    private static void readAnew() {
        RockingGuard g = new RockingGuard();
        for (int i = 0; i < 3; i++) {
            Due.is("7: a fault at its end", Due.text(g, "boy 1;boy 2;wears 1;seen 1" + "+1".repeat(130) + ";tires 2;x"), -1);
        }
        Due.rule(g, "boy 7;seen 11" + "+1".repeat(60) + ";");
        Due.is("7: its law", g.is(5), 71);
        Due.is("7: without that law", g.horse(1, 0) + g.ofHorse(0, 5), 1);
        Due.is("7: its clauses alone", g.played(0), -1);
        Due.is("7: one boy", g.about(1), 1);
        Due.is("7: of that size", g.ofBoy(0, 0), 7);
        Due.is("7: a fault", Due.text(g, "boy 1;seen 5;x"), -1);
        Due.is("7: the text before is as it was", g.is(5), 71);
        Due.text(g, "seen 5;");
        Due.is("7: the text before is as it was", g.is(5), 71);
    }

    private static void tokens() {
        Due.fault("", 0, -1);
        Due.fault("  \n ", 0, -1);
        Due.fault("horse3shift2;boy9;", 0, -1);
        Due.fault("boy 0003;", 0, -1);
        Due.fault("seen 00000000000000000009999;", 0, -1);
        Due.fault("boy\n3 ;\n", 0, -1);
        Due.fault("boy\t3;", 1, 3);
        Due.fault("boy\r3;", 1, 3);
        Due.fault("boys 3;", 1, 0);
        Due.fault("Boy 3;", 1, 0);
        Due.fault("bo y 3;", 1, 0);
        Due.fault("boy 1 2;", 1, 6);
        Due.fault("seen if 1 < = 2 then 1 else 2 end;", 1, 12);
        Due.fault("seen if 1 <= 2 then 1 else 2 end;", 0, -1);
        Due.fault("seen if 1 >= 2 then 1 else 2 end;", 0, -1);
        Due.fault("seen if 1 => 2 then 1 else 2 end;", 1, 11);
        Due.fault("seen if 1 <> 2 then 1 else 2 end;", 1, 11);
        Due.fault("seen if 1 == 2 then 1 else 2 end;", 1, 11);
        Due.fault("seen 1 \u00e9;", 1, 7);
        Due.fault("seen 1 \0;", 1, 7);
        Due.fault("seen ------1;", 0, -1);
        Due.fault("minute 60;".repeat(24), 0, -1);
        Due.fault(";".repeat(300), 1, 0);
        Due.fault("seen 1" + "+1".repeat(146) + " ;", 0, -1);
        Due.fault("seen 1" + "+1".repeat(147), 1, 300);
        Due.fault(" ".repeat(299) + "x", 1, 299);
    }

    private static void faultOne() {
        Due.fault(";", 1, 0);
        Due.fault("seen ;", 1, 5);
        Due.fault("seen", 1, 4);
        Due.fault("seen  ", 1, 6);
        Due.fault("seen 1", 1, 6);
        Due.fault("seen 1 2;", 1, 7);
        Due.fault("seen (1;", 1, 7);
        Due.fault("seen 1);", 1, 6);
        Due.fault("seen 1+;", 1, 7);
        Due.fault("seen 1+*2;", 1, 7);
        Due.fault("seen +1;", 1, 5);
        Due.fault("seen if 1;", 1, 9);
        Due.fault("seen if 1 then 2 else 3 end;", 1, 10);
        Due.fault("seen if 1 < 2 and 3 then 2 else 3 end;", 1, 20);
        Due.fault("seen if (1<2) then 1 else 2 end;", 1, 10);
        Due.fault("seen if 1<2 then 1 end;", 1, 19);
        Due.fault("seen if 1<2 then 1 else 2;", 1, 25);
        Due.fault("seen if 1<2<3 then 1 else 2 end;", 1, 11);
        Due.fault("seen if 1<2 meets 3 then 1 else 2 end;", 1, 12);
        Due.fault("seen if not then 1 else 2 end;", 1, 12);
        Due.fault("seen if 1<2 or then 1 else 2 end;", 1, 15);
        Due.fault("seen not 1;", 1, 5);
        Due.fault("seen 1 or 2;", 1, 7);
        Due.fault("seen boy;", 1, 5);
        Due.fault("seen limit;", 1, 5);
        Due.fault("seen beat;", 1, 9);
        Due.fault("seen shift;", 1, 5);
        Due.fault("horse 3 1;", 1, 8);
        Due.fault("horse 3;", 1, 7);
        Due.fault("horse shift 3;", 1, 6);
        Due.fault("mount 1 to 2;", 1, 8);
        Due.fault("nail 1 on 2;", 1, 7);
        Due.fault("nail 1 to;", 1, 9);
        Due.fault("off -1;", 1, 4);
        Due.fault("off wear;", 1, 4);
        Due.fault("oil 1, 2;", 1, 5);
        Due.fault("minute;", 1, 6);
        Due.fault("minute 1;;", 1, 9);
        Due.fault("rocking 1;", 1, 0);
        Due.fault("shift 1;", 1, 0);
        Due.fault("12;", 1, 0);
    }

    private static void faultTwo() {
        String[] good = {"horse 1 shift 0;", "horse 9 shift 8;", "boy 1;", "boy 9;", "limit 1;", "limit 8;", "mount 5 on 7;", "mount 0 on 0;", "off 5;", "oil 7;",
            "nail 7 to 8;", "nail 0 to 0;", "minute 1;", "minute 60;", "seen 9999;", "wears 0;"};
        for (String text : good) Due.fault(text, 0, -1);
        Due.fault("horse 0 shift 0;", 2, 6);
        Due.fault("horse 10 shift 0;", 2, 6);
        Due.fault("horse 9 shift 9;", 2, 14);
        Due.fault("horse 1 shift 1;", 2, 14);
        Due.fault("boy 0;", 2, 4);
        Due.fault("boy 10;", 2, 4);
        Due.fault("limit 0;", 2, 6);
        Due.fault("limit 9;", 2, 6);
        Due.fault("mount 6 on 0;", 2, 6);
        Due.fault("mount 0 on 8;", 2, 11);
        Due.fault("off 6;", 2, 4);
        Due.fault("oil 8;", 2, 4);
        Due.fault("nail 8 to 0;", 2, 5);
        Due.fault("nail 0 to 9;", 2, 10);
        Due.fault("minute 0;", 2, 7);
        Due.fault("minute 61;", 2, 7);
        Due.fault("seen 10000;", 2, 5);
        Due.fault("seen 1+99999999999999999999999;", 2, 7);
        Due.fault("seen 4294967297;", 2, 5);
        Due.fault("boy 4294967297;", 2, 4);
        Due.fault("seen 1 10000;", 1, 7);
        Due.fault("10000;", 1, 0);
    }

    private static void faultThree() {
        Due.fault("seen ((((((((1))))))));", 0, -1);
        Due.fault("seen (((((((((1)))))))));", 3, 13);
        Due.fault("seen --------1;", 0, -1);
        Due.fault("seen ---------1;", 3, 13);
        Due.fault("seen sign beat - ( sign beat - ( 1 ) );", 0, -1);
        Due.fault("seen sign beat - ( sign beat - ( sign 1 ) );", 3, 33);
        Due.fault("seen ((((((((1 - 2))))))));", 0, -1);
        Due.fault("seen ((((((((1 - -2))))))));", 3, 17);
        Due.fault("seen ((((((((1)+(2))))))));", 0, -1);
        Due.fault("seen ((((((((1))))))))+((((((((1))))))));", 0, -1);
        Due.fault("seen (((((((if 1<2 then 3 else 4 end)))))));", 0, -1);
        Due.fault("seen ((((((((if 1<2 then 3 else 4 end))))))));", 3, 13);
        Due.fault("seen (((((((if 1<(2) then 3 else 4 end)))))));", 3, 17);
        Due.fault("seen (((((((if 1<2 then (3) else 4 end)))))));", 3, 24);
        Due.fault("seen (((((((if 1<2 then 3 else -4 end)))))));", 3, 31);
        Due.fault("seen (((((((if 1<2 then 3 else 4 end + (1))))))));", 0, -1);
        Due.fault("seen if not not not not not not not 1<2 then 3 else 4 end;", 0, -1);
        Due.fault("seen if not not not not not not not not 1<2 then 3 else 4 end;", 3, 36);
        Due.fault("seen if not not not not not not not 1<(2) then 3 else 4 end;", 3, 38);
        Due.fault("seen if not not not not not not not 1<2 and 1<(2) then 3 else 4 end;", 0, -1);
        Due.fault("seen if not not not not not not not 1<2 or not 1<2 then 3 else 4 end;", 0, -1);
    }

    private static void faultFourToSix() {
        Due.fault("wears 1;tires 1;seen 1;", 0, -1);
        Due.fault("wears 1;tires 1;wears 1;", 4, 16);
        Due.fault("tires 1; tires 1;", 4, 9);
        Due.fault("seen 1;seen", 4, 7);
        Due.fault("wears minute+snow+rocking+horse+wear+rider+size;", 0, -1);
        Due.fault("tires minute+snow+rocking+horse+wear+rider+size+tired+who;", 0, -1);
        Due.fault("seen minute+snow+rocking;", 0, -1);
        Due.fault("wears tired;", 5, 6);
        Due.fault("wears who;", 5, 6);
        for (String name : new String[] {"horse", "wear", "rider", "size", "tired", "who"}) Due.fault("seen 1+" + name + ";", 5, 7);
        Due.fault("tires who;seen who;", 5, 15);
        Due.fault("tires who;wears who;", 5, 16);
        Due.fault("off 0;".repeat(24), 0, -1);
        Due.fault("off 0;".repeat(25), 6, 144);
        Due.fault("off 0;".repeat(24) + " seen", 6, 145);
        Due.fault("seen 1;" + "off 0;".repeat(23), 0, -1);
    }

    private static void leastFault() {
        Due.fault("off 0;".repeat(24) + "x", 1, 144);
        Due.fault("off 0;".repeat(24) + ")", 1, 144);
        Due.fault("seen 1;" + "off 0;".repeat(23) + "seen 1;", 4, 145);
        Due.fault("seen 1 who;", 1, 7);
        Due.fault("seen ((((((((1(", 1, 14);
        Due.fault("boy 10; boy x;", 2, 4);
        Due.fault("boy x; boy 10;", 1, 4);
    }
}
