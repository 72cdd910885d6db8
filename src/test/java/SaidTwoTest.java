/** Part II of the document's Terms (texts), sentence by sentence. */
public final class SaidTwoTest {
    public static void main(String[] args) {
        Said.runAll(SaidTwoTest.class, "II");
    }

    private static void sound(String text) {
        Due.fault(text, 0, -1);
    }

    private static void seen(String sum, int want) {
        Due.is("seen " + sum, Scene.seen(sum), want);
    }

    private static void holds(String ask, boolean want) {
        Due.is(ask, Scene.holds(ask), want);
    }

    private static void rules(RockingGuard g, String text) {
        Due.is("a text to rule: " + text, g.by(Due.text(g, text)), true);
    }

    // ==== texts and TOKENS

    static void textsAreFour() {
        Said.at("II", "TEXTS 0 .. 3:");
        RockingGuard g = new RockingGuard();
        for (int i = 0; i < 4; i++) {
            Due.is("by one that isn't there yet", g.by(i), false);
            Due.is("text()", Due.text(g, "seen " + i + ";"), i);
        }
        Due.is("a fifth", Due.text(g, "seen 4;"), -1);
        Due.is("four yet", g.about(2), 4);
        Due.is("by a fifth", g.by(4), false);
        for (int i = 0; i < 4; i++) {
            g.by(i);
            Due.is("seen by " + i, g.is(5), i);
        }
    }

    static void textsOf300Bytes() {
        Said.at("II", "of up to 300 bytes.");
        sound("");
        sound(" ".repeat(294) + "boy 9;");
        sound("seen 1" + "+1".repeat(146) + " ;");
        // As many TOKENS as there can be, and the last byte one that asks for the next.
        Due.fault(";".repeat(300), 1, 0);
        Due.fault("seen 1" + "+1".repeat(146) + "+<", 1, 299);
        Due.fault("seen if 1" + " ".repeat(290) + "<", 1, 300);
        Due.fault("seen if 1" + " ".repeat(290) + ">", 1, 300);
        Due.fault("boy " + "1".repeat(296), 2, 4);
        Due.fault("boy 1" + " ".repeat(294) + "x", 1, 299);
        RockingGuard g = new RockingGuard();
        for (int i = 0; i < 15; i++) g.feed(0, 0, 0, 0, 0);
        Due.is("not one more", g.feed(0, 0, 0, 0, 0), -1);
    }

    static void blanksAreTwo() {
        Said.at("II", "TOKENS, blanks (32, 10) aside:");
        sound(" \n boy \n\n 9 \n ; \n ");
        sound("boy9;");
        for (int other : new int[] {0, 9, 11, 13, 31, 33, 127, 128, 160, 255}) Due.fault("boy 9; " + (char) other, 1, 7);
    }

    static void wordsAreOneToken() {
        Said.at("II", "letters a .. z, A .. Z one behind the other (one TOKEN),");
        Due.fault("boylimit 3;", 1, 0);
        Due.fault("boy 9;zzz", 1, 6);
        Due.fault("boy 9;ZAaz", 1, 6);
        Due.fault("bOy 9;", 1, 0);
        Due.fault("boY 9;", 1, 0);
        Due.fault("bo\ny 9;", 1, 0);
        Due.fault("boy 9;limits 4;", 1, 6);
        Due.fault("boy 9;limi 4;", 1, 6);
        // The signs beside the letters' two rows are no letters: @ [ ` {.
        for (String sign : new String[] {"@", "[", "`", "{"}) Due.fault("boy" + sign + "9;", 1, 3);
        Due.fault("boyZ9;", 1, 0);
        Due.fault("boyA9;", 1, 0);
        Due.fault("boyz9;", 1, 0);
        Due.fault("boya9;", 1, 0);
    }

    static void numbersAreOneToken() {
        Said.at("II", "digits likewise (NUMBERS, 0 .. 9999),");
        seen("0", 0);
        seen("9999-9900", 99);
        seen("0009", 9);
        sound("seen 9999;");
        Due.fault("seen 10000;", 2, 5);
        Due.fault("seen 1 2;", 1, 7);
        sound("boy9;");
        // The signs beside the digits' row are no digits: / and :.
        Due.fault("boy 9:;", 1, 5);
        Due.fault("boy 9/;", 1, 5);
        seen("10/5", 2);
    }

    static void signsAreTheLongest() {
        Said.at("II", "<= >= < > = # + - * / ( ) ; (the longest).");
        holds("2<=2", true);
        holds("2>=2", true);
        holds("2<3", true);
        holds("3>2", true);
        holds("2=2", true);
        holds("2#3", true);
        seen("(1+9-2)*6/4", 12);
        Due.fault("seen if 1< =2 then 1 else 2 end;", 1, 11);
        Due.fault("seen if 1<==2 then 1 else 2 end;", 1, 11);
        Due.fault("seen if 1>== 2 then 1 else 2 end;", 1, 11);
        Due.fault("seen if 1=<2 then 1 else 2 end;", 1, 10);
        Due.fault("seen if 1=>2 then 1 else 2 end;", 1, 10);
        Due.fault("seen if 1==2 then 1 else 2 end;", 1, 10);
        Due.fault("seen if 1#=2 then 1 else 2 end;", 1, 10);
        Due.fault("seen 1+=2;", 1, 7);
        Due.fault("seen if 1<>2 then 1 else 2 end;", 1, 10);
        for (String none : new String[] {"!", "$", "&", "'", ",", ".", ":", "?", "^", "_", "~", "%", "|"}) Due.fault("seen 1" + none + "1;", 1, 6);
    }

    // ==== CLAUSES

    static void clausesAre24() {
        Said.at("II", "{CLAUSE}, 24 at most:");
        sound("");
        sound("oil 1;".repeat(24));
        Due.fault("oil 1;".repeat(25), 6, 144);
        RockingGuard g = new RockingGuard();
        Due.text(g, "limit 5;".repeat(23) + "limit 6;");
        Due.is("all of 24 are played", g.played(0), -1);
        Due.is("the 24th, too", g.is(2), 6);
    }

    static void lawsOnce() {
        Said.at("II", "wears SUM ; or tires SUM ; or seen SUM ; (each once)");
        sound("seen 1;tires 1;wears 1;");
        Due.fault("seen 1;tires 1;wears 1;seen 1;", 4, 23);
        Due.fault("wears 1;wears 1;", 4, 8);
        Due.fault("tires 1;boy 1;tires 1;", 4, 14);
        for (String law : new String[] {"wears", "tires", "seen"}) {
            int n = law.length();
            Due.fault(law, 1, n);
            Due.fault(law + ";", 1, n);
            Due.fault(law + " 1", 1, n + 2);
            Due.fault(law + " 1 1;", 1, n + 3);
        }
    }

    static void clauseHorse() {
        Said.at("II", "or horse NUMBER shift NUMBER ; (BEAT; below it)");
        RockingGuard g = new RockingGuard();
        Due.text(g, "horse 9 shift 8;horse 1 shift 0;horse 7 shift 6;");
        g.played(0);
        Due.is("BEAT", g.ofHorse(0, 0), 9);
        Due.is("SHIFT", g.ofHorse(0, 1), 8);
        Due.is("BEAT", g.ofHorse(1, 0), 1);
        Due.is("SHIFT", g.ofHorse(2, 1), 6);
        Due.fault("horse 7 shift 7;", 2, 14);
        Due.fault("horse 1 shift 1;", 2, 14);
        Due.fault("horse 7;", 1, 7);
        Due.fault("horse 7 6;", 1, 8);
        Due.fault("horse 7 shift;", 1, 13);
        Due.fault("horse 7 shift 6", 1, 15);
        Due.fault("horse shift 6;", 1, 6);
        Due.fault("horse 7 to 6;", 1, 8);
    }

    static void clauseBoy() {
        Said.at("II", "or boy NUMBER ; (SIZE)");
        RockingGuard g = new RockingGuard();
        Due.text(g, "boy 1;boy 9;");
        g.played(0);
        Due.is("SIZE", g.ofBoy(0, 0), 1);
        Due.is("SIZE", g.ofBoy(1, 0), 9);
        Due.fault("boy;", 1, 3);
        Due.fault("boy 1", 1, 5);
        Due.fault("boy -1;", 1, 4);
        Due.fault("boy (1);", 1, 4);
    }

    static void clauseLimit() {
        Said.at("II", "or limit NUMBER ;");
        RockingGuard g = new RockingGuard();
        Due.text(g, "limit 8;");
        g.played(0);
        Due.is("LIMIT", g.is(2), 8);
        Due.fault("limit;", 1, 5);
        Due.fault("limit 1 2;", 1, 8);
        Due.fault("limit snow;", 1, 6);
    }

    static void clauseMount() {
        Said.at("II", "or mount NUMBER on NUMBER ;");
        RockingGuard g = Scene.horses(2, 3);
        g.boy(5);
        Due.text(g, "mount 0 on 1;");
        g.played(0);
        Due.is("boy 0 on HORSE 1", g.ofHorse(1, 3), 0);
        Due.fault("mount 0 1;", 1, 8);
        Due.fault("mount 0 on;", 1, 10);
        Due.fault("mount on 1;", 1, 6);
        Due.fault("mount 0 to 1;", 1, 8);
        Due.fault("mount 0 on 1", 1, 12);
    }

    static void clauseOff() {
        Said.at("II", "or off NUMBER ;");
        RockingGuard g = Scene.ridden(2, 3);
        Due.text(g, "off 1;");
        g.played(0);
        Due.is("boy 1", g.ofBoy(1, 2), -1);
        Due.is("boy 0", g.ofBoy(0, 2), 0);
        Due.fault("off;", 1, 3);
        Due.fault("off 1", 1, 5);
        Due.fault("off who;", 1, 4);
    }

    static void clauseOil() {
        Said.at("II", "or oil NUMBER ;");
        RockingGuard g = Scene.ridden(1, 1);
        g.minute(3);
        Due.text(g, "oil 1;");
        g.played(0);
        Due.is("HORSE 1", g.ofHorse(1, 2), 0);
        Due.is("HORSE 0", g.ofHorse(0, 2), 3);
        Due.fault("oil;", 1, 3);
        Due.fault("oil 1", 1, 5);
        Due.fault("oil horse 1;", 1, 4);
    }

    static void clauseNail() {
        Said.at("II", "or nail NUMBER to NUMBER ;");
        RockingGuard g = Scene.horses(9, 9);
        Due.text(g, "nail 1 to 8;");
        g.played(0);
        Due.is("HORSE 1", g.ofHorse(1, 1), 8);
        Due.is("HORSE 0", g.ofHorse(0, 1), 0);
        Due.fault("nail 1 8;", 1, 7);
        Due.fault("nail 1 to;", 1, 9);
        Due.fault("nail to 8;", 1, 5);
        Due.fault("nail 1 on 8;", 1, 7);
        Due.fault("nail 1 shift 8;", 1, 7);
    }

    static void clauseMinute() {
        Said.at("II", "or minute NUMBER ;.");
        RockingGuard g = new RockingGuard();
        Due.text(g, "minute 60;minute 1;");
        g.played(0);
        Due.is("MINUTE", g.is(0), 61);
        Due.fault("minute;", 1, 6);
        Due.fault("minute 1", 1, 8);
        Due.fault("minute minute;", 1, 7);
    }

    // ==== SUMS

    static void sums() {
        Said.at("II", "SUM: PRODUCT {+ or - PRODUCT}.");
        seen("7", 7);
        seen("7+2*3", 13);
        seen("7*2-3", 11);
        seen("1+2-3+4-1", 3);
        Due.fault("seen 1+;", 1, 7);
        Due.fault("seen 1-;", 1, 7);
        Due.fault("seen +1;", 1, 5);
        Due.fault("seen 1++1;", 1, 7);
    }

    static void products() {
        Said.at("II", "PRODUCT: ONE {* or / ONE}.");
        seen("3*4", 12);
        seen("2*3*4/6", 4);
        seen("-2*-3", 6);
        seen("8/-2+9", 5);
        Due.fault("seen 1*;", 1, 7);
        Due.fault("seen 1/;", 1, 7);
        Due.fault("seen *1;", 1, 5);
        Due.fault("seen 1*/1;", 1, 7);
    }

    static void ones() {
        Said.at("II", "ONE: NUMBER, NAME, ( SUM ), - ONE,");
        seen("3", 3);
        seen("minute", 0);
        seen("(3+4)*2", 14);
        seen("((3))", 3);
        // The minus is of its ONE alone.
        seen("-3+5", 2);
        seen("--3", 3);
        seen("-(3-5)", 2);
        Due.fault("seen ();", 1, 6);
        Due.fault("seen (1;", 1, 7);
        Due.fault("seen 1);", 1, 6);
        Due.fault("seen -;", 1, 6);
        Due.fault("seen (1<2);", 1, 7);
    }

    static void signs() {
        Said.at("II", "sign ONE (1 above 0, -1 below, 0),");
        seen("sign 1+5", 6);
        seen("sign 9999+5", 6);
        seen("sign -1+5", 4);
        seen("sign -9999+5", 4);
        seen("sign 0+5", 5);
        seen("sign(3-3)+5", 5);
        // sign is of its ONE alone.
        seen("sign 7*9", 9);
        Due.fault("seen sign;", 1, 9);
    }

    static void beats() {
        Said.at("II", "beat ONE (BEAT of the HORSE of that number; 0 if none such is told),");
        seen("beat 0", 4);
        seen("beat 1", 7);
        seen("beat 2", 0);
        seen("beat 7", 0);
        seen("beat 8", 0);
        seen("beat -1", 0);
        seen("beat 9999", 0);
        seen("beat(1000*1000)", 0);
        // beat is of its ONE alone.
        seen("beat 0+1", 5);
        Due.fault("seen beat;", 1, 9);
        RockingGuard g = new RockingGuard();
        rules(g, "seen beat 7;");
        for (int i = 0; i < 7; i++) g.horse(9, 0);
        Due.is("ahead of it", g.is(5), 0);
        g.horse(3, 0);
        Due.is("the eighth", g.is(5), 3);
    }

    static void choices() {
        Said.at("II", "if EITHER then SUM else SUM end.");
        seen("if 1=1 then 5 else 6 end", 5);
        seen("if 1=2 then 5 else 6 end", 6);
        seen("if 1=2 then 5 else 6 end*2", 12);
        seen("if 1=2 then 5 else if 1=1 then 7 else 8 end end", 7);
        Due.fault("seen if 1=1 then 5 end;", 1, 19);
        Due.fault("seen if 1=1 then 5 else 6;", 1, 25);
        Due.fault("seen if 1=1 else 6 end;", 1, 12);
        Due.fault("seen if then 5 else 6 end;", 1, 8);
        Due.fault("seen if 1=1 then else 6 end;", 1, 17);
        Due.fault("seen if 1 then 5 else 6 end;", 1, 10);
    }

    static void eithers() {
        Said.at("II", "EITHER: BOTH {or BOTH}.");
        holds("1=2 or 1=2", false);
        holds("1=1 or 1=2", true);
        holds("1=2 or 1=1", true);
        holds("1=1 or 1=1", true);
        holds("1=2 or 1=2 or 1=1", true);
        // and is the nearer one.
        holds("1=1 or 1=1 and 1=2", true);
        holds("1=2 and 1=1 or 1=1", true);
        Due.fault("seen if 1=1 or then 5 else 6 end;", 1, 15);
    }

    static void boths() {
        Said.at("II", "BOTH: ASK {and ASK}.");
        holds("1=2 and 1=2", false);
        holds("1=1 and 1=2", false);
        holds("1=2 and 1=1", false);
        holds("1=1 and 1=1", true);
        holds("1=1 and 1=1 and 1=2", false);
        Due.fault("seen if 1=1 and then 5 else 6 end;", 1, 16);
    }

    static void nots() {
        Said.at("II", "ASK: not ASK,");
        holds("not 1=2", true);
        holds("not 1=1", false);
        holds("not not 1=1", true);
        // not is of its ASK alone.
        holds("not 1=2 and 1=2", false);
        holds("not 1=1 or 1=1", true);
        Due.fault("seen if not then 5 else 6 end;", 1, 12);
        Due.fault("seen not 1;", 1, 5);
    }

    static void meetings() {
        Said.at("II", "or SUM meets SUM (some number above 1 divides both; 0 meets what isn't 1 or -1),");
        holds("4 meets 6", true);
        holds("-4 meets 6", true);
        holds("9 meets 3", true);
        holds("8 meets 9", false);
        holds("1 meets 6", false);
        holds("6 meets -1", false);
        holds("0 meets 1", false);
        holds("1 meets 0", false);
        holds("0 meets -1", false);
        holds("-1 meets 0", false);
        holds("0 meets 2", true);
        holds("-2 meets 0", true);
        holds("0 meets 0", true);
        holds("1000*1000 meets 5", true);
        holds("1000*1000 meets 9999", false);
        Due.fault("seen if 1 meets then 5 else 6 end;", 1, 16);
        Due.fault("seen 2 meets 4;", 1, 7);
    }

    static void asks() {
        Said.at("II", "or SUM one of < <= > >= = # (unlike) SUM.");
        String[] signs = {"<", "<=", ">", ">=", "=", "#"};
        boolean[] less = {true, true, false, false, false, true};
        boolean[] like = {false, true, false, true, true, false};
        boolean[] more = {false, false, true, true, false, true};
        for (int i = 0; i < signs.length; i++) {
            holds("2" + signs[i] + "3", less[i]);
            holds("2" + signs[i] + "2", like[i]);
            holds("3" + signs[i] + "2", more[i]);
            holds("-3" + signs[i] + "2", less[i]);
        }
        Due.fault("seen if 1<2<3 then 5 else 6 end;", 1, 11);
        Due.fault("seen if <2 then 5 else 6 end;", 1, 8);
    }

    // ==== NAMES

    static void namesInAll() {
        Said.at("II", "NAMES: minute, snow in all;");
        RockingGuard g = Scene.ridden(1, 9);
        g.minute(3);
        // MINUTE 3, SNOW 2 + 1 + 1.
        rules(g, "wears minute*2;tires minute+snow;seen minute*10+snow;");
        Due.is("wears", g.ofHorse(0, 5), 6);
        Due.is("tires", g.ofBoy(0, 3), 7);
        Due.is("seen", g.is(5), 34);
        rules(g, "wears snow;");
        Due.is("wears", g.ofHorse(1, 5), 4);
    }

    static void namesOfHorses() {
        Said.at("II", "horse (its number), wear, rider (the boy on it; -1: none), size (his; 0) in wears, tires;");
        String[] sums = {"horse+1", "wear+1", "rider+1", "size+1"};
        int[] ridden = {1, 3, 2, 8};
        int[] free = {3, 1, 0, 1};
        for (int i = 0; i < sums.length; i++) {
            RockingGuard g = Scene.horses(1, 1, 1);
            g.boy(4);
            g.boy(7);
            g.mount(1, 0);
            g.minute(2);
            rules(g, "wears " + sums[i] + ";tires " + sums[i] + ";");
            Due.is("wears " + sums[i] + " of the one ridden", g.ofHorse(0, 5), ridden[i]);
            Due.is("tires " + sums[i], g.ofBoy(1, 3), ridden[i]);
            Due.is("wears " + sums[i] + " of one that isn't", g.ofHorse(2, 5), free[i]);
        }
        for (String name : new String[] {"horse", "wear", "rider", "size"}) Due.fault("seen " + name + ";", 5, 5);
    }

    static void namesOfBoys() {
        Said.at("II", "tired (his), who (his number) in tires;");
        RockingGuard g = Scene.ridden(1, 9, 9);
        g.minute(2);
        rules(g, "tires tired;");
        Due.is("his", g.ofBoy(0, 3), 2);
        Due.is("his", g.ofBoy(1, 3), 1);
        rules(g, "tires who;");
        Due.is("his number", g.ofBoy(2, 3), 2);
        Due.is("his number", g.ofBoy(0, 3), 0);
        for (String name : new String[] {"tired", "who"}) {
            Due.fault("wears " + name + ";", 5, 6);
            Due.fault("seen " + name + ";", 5, 5);
        }
    }

    static void namesOfRocking() {
        Said.at("II", "rocking (how many ROCK in that MINUTE) in all.");
        RockingGuard g = Scene.ridden(1, 1, 2);
        rules(g, "wears rocking;tires rocking;seen rocking;");
        Due.is("wears", g.ofHorse(0, 5), 3);
        Due.is("tires", g.ofBoy(0, 3), 3);
        Due.is("seen", g.is(5), 3);
        g.minute(1);
        Due.is("two in the next", g.is(5), 2);
        // The first boy who is off by this law doesn't make it less for those behind him.
        rules(g, "tires if who=0 then 9 else rocking end;");
        g.minute(1);
        Due.is("OFF", g.ofBoy(0, 2), -1);
        Due.is("two rocked: 3 and 2", g.ofBoy(1, 1), 5);
        RockingGuard none = Scene.horses(1);
        rules(none, "seen rocking;");
        Due.is("none", none.is(5), 0);
    }

    // ==== how it is reckoned

    static void fromTheLeft() {
        Said.at("II", "From the left;");
        seen("9-5-3", 1);
        seen("9-5+3", 7);
        seen("80/4/2", 10);
        seen("80/4*2", 40);
        seen("7/2*2", 6);
        seen("7*2/2", 7);
    }

    static void divisions() {
        Said.at("II", "/ cuts towards 0, by 0 it is 0;");
        seen("7/2", 3);
        seen("-7/2+10", 7);
        seen("7/-2+10", 7);
        seen("-7/-2", 3);
        seen("7/0+10", 10);
        seen("-7/0+10", 10);
        seen("0/0+10", 10);
        seen("0/7+10", 10);
        seen("1/2+10", 10);
        seen("-1/2+10", 10);
    }

    static void capsAtEachStep() {
        Said.at("II", "what is above 1000000 (below the same less) is that, at each step.");
        seen("(9999*9999-1000*999)/50", 20);
        seen("(1000*1000+1-9999*100)/2", 50);
        seen("(1000*1000-9999*100)/2", 50);
        seen("(1000*1000-1-9999*100)", 99);
        seen("(1000*1000-1-9999*100)/33", 3);
        seen("(0-9999*9999+1000*1000)+7", 7);
        seen("0-1000*1000-5+1000*1000+7", 7);
        seen("-1000*1000*2+1000*1000+7", 7);
        seen("9999*9999*9999*9999/9999-50", 50);
        holds("9999*9999=1000*1000", true);
        holds("9999*100+100=1000*1000", true);
        holds("9999*100+99<1000*1000", true);
        holds("9999*100+101=1000*1000", true);
        holds("-9999*9999=-(1000*1000)", true);
        holds("0-9999*100-100=-(1000*1000)", true);
        holds("0-9999*100-101=-(1000*1000)", true);
        holds("0-9999*100-99>-(1000*1000)", true);
    }

    static void bothSidesAreLookedAt() {
        Said.at("II", "or and and look at both sides always, of if just the SUM that is chosen is asked.");
        holds("1=1 or 1/0=5", true);
        holds("1=2 and 1/0=5", false);
        seen("if 1=1 then 5 else 9999*9999 end", 5);
        seen("if 1=2 then 9999*9999 else 5 end", 5);
        seen("3+if 1=1 then 5 else 6 end+if 1=2 then 5 else 6 end", 14);
    }

    // ==== FAULTS

    static void faultIsTheFirst() {
        Said.at("II", "FAULTS, the first as TOKENS are come to, at the TOKEN's first byte (of the end at the length), of one the least:");
        Due.fault("boy 10;x", 2, 4);
        Due.fault("x;boy 10;", 1, 0);
        Due.fault("seen who;seen 1;", 5, 5);
        Due.fault("seen 10000 $;", 2, 5);
        Due.fault("boy 1; limits 2;", 1, 7);
        Due.fault("boy  10000;", 2, 5);
        Due.fault("boy 1", 1, 5);
        Due.fault("boy 1 \n ", 1, 8);
        Due.fault("boy" + " ".repeat(297), 1, 300);
        // One TOKEN may have more than one.
        Due.fault("10000;", 1, 0);
        Due.fault("seen 1 10000;", 1, 7);
        Due.fault("seen 1 who;", 1, 7);
        Due.fault("seen 1;" + "oil 1;".repeat(23) + "seen 2;", 4, 145);
        Due.fault("oil 1;".repeat(24) + "x", 1, 144);
    }

    static void faultOne() {
        Said.at("II", "1 it can't stand there, or is none.");
        Due.fault(";", 1, 0);
        Due.fault("on 1;", 1, 0);
        Due.fault("sign 1;", 1, 0);
        Due.fault("seen then;", 1, 5);
        Due.fault("seen boy;", 1, 5);
        Due.fault("seen shift;", 1, 5);
        Due.fault("seen meets;", 1, 5);
        Due.fault("seen seen;", 1, 5);
        Due.fault("seen nobody;", 1, 5);
        Due.fault("seen $;", 1, 5);
        Due.fault("boy 1; ;", 1, 7);
    }

    static void faultTwoAbove9999() {
        Said.at("II", "2 a NUMBER that isn't one of those told (above 9999;");
        sound("seen 9999;");
        Due.fault("seen 10000;", 2, 5);
        Due.fault("seen 99999;", 2, 5);
        // 2^32 + 1 and 2^64 + 1: a number that wraps around is none of those told.
        Due.fault("seen 4294967297;", 2, 5);
        Due.fault("boy 4294967297;", 2, 4);
        Due.fault("boy 18446744073709551617;", 2, 4);
        Due.fault("seen " + "9".repeat(290) + ";", 2, 5);
        sound("boy " + "0".repeat(290) + "1;");
    }

    static void faultTwoBeat() {
        Said.at("II", "BEAT, SIZE 1 .. 9,");
        sound("horse 1 shift 0;horse 9 shift 0;");
        Due.fault("horse 0 shift 0;", 2, 6);
        Due.fault("horse 10 shift 0;", 2, 6);
        sound("boy 1;boy 9;");
        Due.fault("boy 0;", 2, 4);
        Due.fault("boy 10;", 2, 4);
    }

    static void faultTwoShift() {
        Said.at("II", "SHIFT 0 .. 8 (below BEAT of that horse),");
        for (int beat = 1; beat <= 9; beat++) {
            sound("horse " + beat + " shift " + (beat - 1) + ";");
            Due.fault("horse " + beat + " shift " + beat + ";", 2, 14);
        }
        Due.fault("horse 9 shift 10;", 2, 14);
    }

    static void faultTwoLimit() {
        Said.at("II", "LIMIT 1 .. 8,");
        sound("limit 1;limit 8;");
        Due.fault("limit 0;", 2, 6);
        Due.fault("limit 9;", 2, 6);
    }

    static void faultTwoHorses() {
        Said.at("II", "HORSES 0 .. 7,");
        sound("mount 0 on 0;mount 0 on 7;oil 0;oil 7;nail 0 to 0;nail 7 to 0;");
        Due.fault("mount 0 on 8;", 2, 11);
        Due.fault("oil 8;", 2, 4);
        Due.fault("nail 8 to 0;", 2, 5);
    }

    static void faultTwoBoys() {
        Said.at("II", "BOYS 0 .. 5,");
        sound("mount 0 on 0;mount 5 on 0;off 0;off 5;");
        Due.fault("mount 6 on 0;", 2, 6);
        Due.fault("off 6;", 2, 4);
    }

    static void faultTwoMinutes() {
        Said.at("II", "MINUTES 1 .. 60;");
        sound("minute 1;minute 60;");
        Due.fault("minute 0;", 2, 7);
        Due.fault("minute 61;", 2, 7);
    }

    static void faultTwoNail() {
        Said.at("II", "of nail 0 .. 8).");
        sound("nail 0 to 0;nail 0 to 8;");
        Due.fault("nail 0 to 9;", 2, 10);
    }

    static void faultThree() {
        Said.at("II", "3 the 9th of ( not sign beat if and - (of one ONE) that are open around one another (at it).");
        sound("seen ((((((((1))))))));");
        Due.fault("seen (((((((((1", 3, 13);
        sound("seen --------1;");
        Due.fault("seen ---------1;", 3, 13);
        sound("seen (((((((sign 1)))))));");
        Due.fault("seen ((((((((sign 1))))))));", 3, 13);
        sound("seen (((((((beat 1)))))));");
        Due.fault("seen ((((((((beat 1))))))));", 3, 13);
        sound("seen (((((((if 1<2 then 1 else 2 end)))))));");
        Due.fault("seen ((((((((if 1<2 then 1 else 2 end))))))));", 3, 13);
        sound("seen ((((((if not 1<2 then 1 else 2 end))))));");
        Due.fault("seen (((((((if not 1<2 then 1 else 2 end)))))));", 3, 15);
        sound("seen if not not not not not not not 1<2 then 1 else 2 end;");
        Due.fault("seen if not not not not not not not not 1<2 then 1 else 2 end;", 3, 36);
        Due.fault("seen if not not not not not not not 1<(2) then 1 else 2 end;", 3, 38);
        Due.fault("seen if not not not not not not not -1<2 then 1 else 2 end;", 3, 36);
        Due.fault("seen (((((((if 1<(2) then 1 else 2 end)))))));", 3, 17);
        Due.fault("seen (((((((if 1<2 then (1) else 2 end)))))));", 3, 24);
        Due.fault("seen (((((((if 1<2 then 1 else (2) end)))))));", 3, 31);
    }

    static void faultThreeOfOpenOnesAlone() {
        Said.at("II", "that are open around one another (at it).");
        sound("seen (1)+(1)+(1)+(1)+(1)+(1)+(1)+(1)+(1)+(1);");
        sound("seen ((((((((1-2))))))));");
        sound("seen ((((((((1))))))))-((((((((1))))))));");
        sound("seen -------(1)-(1);");
        sound("seen sign sign sign sign sign sign sign sign 1+sign 1;");
        sound("seen if not 1<2 and not 1<2 and not 1<2 and not 1<2 and not 1<2 and not 1<2 and not 1<2 and not 1<2 and not 1<2 then 1 else 2 end;");
        sound("seen (((((((if 1<2 then 1 else 2 end+(1))))))));");
        // What is open in one law isn't in the next.
        sound("seen ((((((((1))))))));tires ((((((((1))))))));");
    }

    static void faultFour() {
        Said.at("II", "4 wears, tires, seen for the second time (at it).");
        Due.fault("wears 1; wears 1;", 4, 9);
        Due.fault("tires 1; tires 1;", 4, 9);
        Due.fault("seen 1; seen 1;", 4, 8);
        Due.fault("seen 1;seen", 4, 7);
        Due.fault("boy 1;seen 1;wears 1;seen $;", 4, 21);
        sound("boy 1;boy 1;limit 1;limit 1;");
    }

    static void faultFive() {
        Said.at("II", "5 a NAME that isn't of that CLAUSE (at it).");
        Due.fault("seen 1+horse;", 5, 7);
        Due.fault("seen (wear;", 5, 6);
        Due.fault("seen rider;", 5, 5);
        Due.fault("seen size;", 5, 5);
        Due.fault("wears 1;seen size;", 5, 13);
        Due.fault("tires tired;wears tired;", 5, 18);
        Due.fault("tires who;wears who;", 5, 16);
        sound("wears minute+snow+horse+wear+rider+size+rocking;tires minute+snow+horse+wear+rider+size+tired+who+rocking;seen minute+snow+rocking;");
    }

    static void faultSix() {
        Said.at("II", "6 the 25th CLAUSE (at its first TOKEN).");
        sound("oil 1;".repeat(24) + " \n");
        Due.fault("oil 1;".repeat(24) + " \nboy 77;", 6, 146);
        Due.fault("seen 1;" + "oil 1;".repeat(23) + "wears 1;", 6, 145);
        Due.fault("seen 1;" + "oil 1;".repeat(23) + "wears", 6, 145);
    }

    // ==== what rules

    static void noTextRulesAtFirst() {
        Said.at("II", "THE TEXT (told; at first none) rules.");
        RockingGuard g = Scene.ridden(1);
        Due.text(g, "wears 5;tires 6;seen 7;");
        Due.is("at first none", g.about(3), -1);
        Due.is("wears", g.ofHorse(0, 5), 1);
        Due.is("tires", g.ofBoy(0, 3), 1);
        Due.is("seen", g.is(5), 8);
        g.by(0);
        Due.is("wears", g.ofHorse(0, 5), 5);
        Due.is("tires", g.ofBoy(0, 3), 6);
        Due.is("seen", g.is(5), 7);
    }

    static void wearsIsUpToNine() {
        Said.at("II", "wears: 0 at least, 9 at most; without: 1.");
        String[] sums = {"-1", "0", "9", "10", "9999*9999", "-9999*9999"};
        int[] want = {0, 0, 9, 9, 9, 0};
        for (int i = 0; i < sums.length; i++) {
            RockingGuard g = Scene.ridden(1);
            rules(g, "wears " + sums[i] + ";");
            Due.is("wears " + sums[i], g.ofHorse(0, 5), want[i]);
            g.minute(1);
            Due.is("WEAR by " + sums[i], g.ofHorse(0, 2), want[i]);
        }
        RockingGuard g = Scene.ridden(1);
        rules(g, "tires 5;seen 5;");
        Due.is("without", g.ofHorse(0, 5), 1);
    }

    static void tiresIsUpToNine() {
        Said.at("II", "tires: 0 at least, 9 at most; without: 1 if its HORSE ROCKS in that MINUTE (as at first), else 0.");
        String[] sums = {"-1", "0", "9", "10", "9999*9999", "-9999*9999"};
        int[] want = {0, 0, 9, 9, 9, 0};
        for (int i = 0; i < sums.length; i++) {
            RockingGuard g = Scene.ridden(1);
            rules(g, "tires " + sums[i] + ";");
            Due.is("tires " + sums[i], g.ofBoy(0, 3), want[i]);
            g.minute(1);
            Due.is("TIRED by " + sums[i], g.ofBoy(0, 1), want[i]);
        }
        RockingGuard g = Scene.ridden(1, 2);
        rules(g, "wears 5;seen 5;");
        g.minute(1);
        Due.is("without, it rocks", g.ofBoy(0, 3), 1);
        Due.is("without, it doesn't", g.ofBoy(1, 3), 0);
        // As at first: it rocked, though it is worn out by that MINUTE.
        RockingGuard last = Scene.worn(98);
        last.minute(1);
        Due.is("worn out", last.ofHorse(0, 2), 99);
        Due.is("he is tired by it", last.ofBoy(0, 1), 1);
        last.minute(1);
        Due.is("no more then", last.ofBoy(0, 1), 1);
    }

    static void seenIsUpTo99() {
        Said.at("II", "seen: 0 at least, 99 at most; without: 8 times rocking.");
        seen("-1", 0);
        seen("0", 0);
        seen("99", 99);
        seen("100", 99);
        seen("9999*9999", 99);
        seen("-9999*9999", 0);
        RockingGuard g = Scene.ridden(1, 1, 1, 1, 1, 1);
        Due.is("without", g.is(5), 48);
        rules(g, "wears 5;tires 5;");
        Due.is("without that law", g.is(5), 48);
        Due.is("none rocks", new RockingGuard().is(5), 0);
    }

    // ==== PLAYED

    static void playedInOrder() {
        Said.at("II", "PLAYED by a TEXT: its CLAUSES but laws, in their order, as by hand;");
        RockingGuard g = new RockingGuard();
        Due.text(g, "limit 1;wears 9;horse 1 shift 0;boy 5;mount 0 on 0;seen 7;minute 2;off 0;oil 0;limit 4;");
        Due.is("played(0)", g.played(0), -1);
        Due.is("LIMIT 1 while MINUTES passed", g.book(-1, 0), 2);
        Due.is("LIMIT 4 at last", g.is(2), 4);
        Due.is("OIL", g.is(3), 8);
        Due.is("its laws don't rule", g.about(3), -1);
        Due.is("nor say what is seen", g.is(5), 0);
        Due.is("MOUNTS, two MINUTES, OFF, OILED", g.about(4), 5);
        g.undo();
        Due.is("WEAR without a law", g.ofHorse(0, 2), 2);
        RockingGuard laws = new RockingGuard();
        Due.text(laws, "wears 1;tires 1;seen 1;");
        Due.is("laws alone", laws.played(0), -1);
        Due.text(laws, "");
        Due.is("nothing", laws.played(1), -1);
    }

    static void playedUpToWhatCantBe() {
        Said.at("II", "one that can't be ends it (of so many MINUTES those that can pass do):");
        RockingGuard g = new RockingGuard();
        Due.text(g, "off 0;limit 7;");
        Due.is("off", g.played(0), 0);
        Due.is("what is behind it isn't done", g.is(2), 3);
        Scene.pass(g, 9990);
        Due.text(g, "minute 9;");
        Due.is("all nine pass", g.played(1), -1);
        g.undo();
        g.undo();
        Due.is("MINUTE", g.is(0), 9997);
        Due.text(g, "limit 2;minute 3;limit 7;");
        Due.is("two of three", g.played(2), 1);
        Due.is("those that can pass do", g.is(0), 9999);
        Due.is("what is behind isn't done", g.is(2), 2);
        Due.is("each a STEP", g.undo(), 29);
        Due.is("MINUTE", g.is(0), 9998);
        g.minute(1);
        Due.is("none of three", g.played(2), 1);
        Due.is("MINUTE", g.is(0), 9999);
    }

    static void playedEachThatCantBe() {
        Said.at("II", "one that can't be ends it");
        String[] clauses = {"horse 2 shift 1;", "boy 5;", "mount 0 on 0;", "mount 5 on 7;", "off 1;", "oil 7;", "nail 0 to 0;", "nail 0 to 2;", "nail 7 to 1;"};
        int[] full = {0, 0, 0, 0, 0, -1, 0, 0, -1};
        int[] scarce = {-1, -1, 0, 0, 0, 0, 0, 0, 0};
        for (int i = 0; i < clauses.length; i++) {
            RockingGuard g = Scene.horses(2, 2, 2, 2, 2, 2, 2, 2);
            for (int b = 0; b < 6; b++) g.boy(5);
            g.mount(0, 0);
            g.mount(5, 7);
            Due.text(g, clauses[i]);
            Due.is(clauses[i] + " on a full terrace", g.played(0), full[i]);
            RockingGuard few = Scene.horses(2);
            few.boy(5);
            few.mount(0, 0);
            Due.text(few, clauses[i]);
            Due.is(clauses[i] + " on one with few", few.played(0), scarce[i]);
        }
        RockingGuard dry = Scene.horses(2);
        Due.text(dry, "oil 0;".repeat(10));
        Due.is("the tenth oil", dry.played(0), 9);
        RockingGuard weary = Scene.tired(9);
        Due.text(weary, "mount 0 on 0;");
        Due.is("one who is TIRED 9", weary.played(1), 0);
    }

    static void playedTellsTheClause() {
        Said.at("II", "its number among all CLAUSES (from 0); what was done stays.");
        RockingGuard g = new RockingGuard();
        Due.text(g, "wears 1;horse 2 shift 0;tires 1;boy 3;seen 1;off 0;boy 4;");
        Due.is("laws are counted, too", g.played(0), 5);
        Due.is("the HORSE stays", g.about(0), 1);
        Due.is("the boy stays", g.about(1), 1);
        Due.text(g, "limit 1;".repeat(23) + "off 0;");
        Due.is("the 24th", g.played(1), 23);
        Due.text(g, "off 0;");
        Due.is("the first", g.played(2), 0);
    }
}
