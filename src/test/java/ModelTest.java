import java.util.Random;

/** Long runs of drawn calls, each answered by the program and by the model alike. */
public final class ModelTest {
    private static final int[] EDGES = {Integer.MIN_VALUE, -1000, -3, -2, -1, 0, 1, 2, 3, 4, 5, 6, 7, 8, 9, 10, 11, 40, 41, 59, 60, 61, 63, 64, 98,
        99, 100, 127, 128, 255, 256, 300, 301, 9998, 9999, 10000, Integer.MAX_VALUE - 1, Integer.MAX_VALUE};
    private static final String[] NAMES = {"minute", "snow", "rocking", "horse", "wear", "rider", "size", "tired", "who"};
    private static final String[] TOKENS = {"wears", "tires", "seen", "horse", "boy", "limit", "mount", "off", "oil", "nail", "minute", "shift", "on",
        "to", "sign", "beat", "if", "then", "else", "end", "or", "and", "not", "meets", "snow", "wear", "rider", "size", "tired", "who", "rocking", "<=",
        ">=", "<", ">", "=", "#", "+", "-", "*", "/", "(", ")", ";", "0", "1", "8", "9", "60", "61", "9999", "10000", "007", "99999999999999999999",
        "Wears", "x", "\t", "\0", "\u00e9", "!", "\n", " "};

    private final Random draw;
    private RockingGuard g = new RockingGuard();
    private Model m = new Model();
    private final StringBuilder run = new StringBuilder();
    private int wrong = 0;

    private ModelTest(long seed) {
        draw = new Random(seed);
    }

    public static void main(String[] args) {
        int runs = args.length > 0 ? Integer.parseInt(args[0]) : 1500;
        long from = args.length > 1 ? Long.parseLong(args[1]) : 0;
        int wrong = 0;
        for (long seed = from; seed < from + runs && wrong < 5; seed++) {
            wrong += new ModelTest(seed).play();
        }
        for (long seed = from; seed < from + 20L * runs && wrong < 5; seed++) {
            wrong += new ModelTest(seed).readOne();
        }
        System.out.println(wrong == 0 ? "all answers are as the model's" : "answers unlike the model's");
        if (wrong != 0) {
            System.exit(1);
        }
    }

    private void same(String call, long got, long want) {
        run.append(call).append(" -> ").append(want).append('\n');
        if (got != want && wrong == 0) {
            wrong++;
            System.out.println(run + "answered " + got + ", due is " + want);
        }
    }

    private void same(String call, boolean got, boolean want) {
        same(call, got ? 1 : 0, want ? 1 : 0);
    }

    private int upTo(int n) {
        return draw.nextInt(n);
    }

    /** Mostly a number that can be, now and then one at an edge. */
    private int some(int from, int to) {
        return upTo(20) == 0 ? EDGES[upTo(EDGES.length)] : from + upTo(to - from + 1);
    }

    private int play() {
        boolean late = upTo(12) == 0;
        for (int i = upTo(8); i > 0; i--) tellOne();
        if (late) hurry();
        int tempo = upTo(4);
        for (int i = 0; i < 250 && wrong == 0; i++) {
            switch (upTo(10)) {
                case 0: tellOne(); break;
                case 1: case 2: case 3: case 4: actOne(tempo); break;
                case 5: if (upTo(3) == 0) write(); else actOne(tempo); break;
                case 6: askOne(); break;
                case 7: judgeOne(); break;
                case 8: readState(); break;
                default: listOne();
            }
        }
        if (wrong == 0) undoAll();
        return wrong;
    }

    /** Goes on until no minute is left, or nearly. */
    private void hurry() {
        for (int i = 0; i < 166; i++) same("minute(60)", g.minute(60), m.minute(60));
        int n = 1 + upTo(39);
        same("minute " + n, g.minute(n), m.minute(n));
    }

    private int readOne() {
        write();
        return wrong;
    }

    private void tellOne() {
        int beat = some(1, 9);
        int shift = upTo(3) == 0 ? some(0, 8) : upTo(Math.max(1, Math.min(9, beat)));
        int size = some(1, 9);
        int n = some(1, 8);
        switch (upTo(5)) {
            case 0: case 1: same("horse " + beat + " " + shift, g.horse(beat, shift), m.horse(beat, shift)); break;
            case 2: case 3: same("boy " + size, g.boy(size), m.boy(size)); break;
            default: same("limit " + n, g.limit(n), m.limit(n));
        }
    }

    private void actOne(int tempo) {
        int b = some(0, 5);
        int h = some(0, 7);
        int shift = some(0, 8);
        int t = some(0, 3);
        int seed = some(0, 9999);
        int n = some(1, tempo == 0 ? 60 : 4);
        int w = some(1, 40);
        switch (upTo(16)) {
            case 0: case 1: case 2: case 3: same("mount " + b + " " + h, g.mount(b, h), m.mount(b, h)); break;
            case 4: same("off " + b, g.off(b), m.off(b)); break;
            case 5: same("oil " + h, g.oil(h), m.oil(h)); break;
            case 6: same("nail " + h + " " + shift, g.nail(h, shift), m.nail(h, shift)); break;
            case 7: case 8: case 9: case 10: same("minute " + n, g.minute(n), m.minute(n)); break;
            case 11: same("played " + t, g.played(t), m.played(t)); break;
            case 12: same("winters " + seed + " " + w, g.winters(seed, w), m.winters(seed, w)); break;
            case 13: same("undo", g.undo(), m.undo()); break;
            case 14: if (upTo(3) == 0) same("image", g.image(), m.image()); break;
            default: if (upTo(4) == 0) same("back", g.back(), m.back());
        }
    }

    private void askOne() {
        int set = some(0, (1 << m.s.horses.size()) - 1);
        int n = some(1, 60);
        int what = some(0, 2);
        int of = some(0, 7);
        int k = some(1, 8);
        int far = some(1, 99);
        int at = some(0, 9999);
        switch (upTo(9)) {
            case 0: same("rocking " + at, g.rocking(at), m.rocking(at)); break;
            case 1: same("together " + set, g.together(set), m.together(set)); break;
            case 2: same("foretold " + n + " " + what + " " + of, g.foretold(n, what, of), m.foretold(n, what, of)); break;
            case 3: same("firstSlide", g.firstSlide(), m.firstSlide()); break;
            case 4: same("unmanned", g.unmanned(), m.unmanned()); break;
            case 5: same("safe " + far + " " + k, g.safe(far, k), m.safe(far, k)); break;
            case 6: same("rode " + what, g.rode(what), m.rode(what)); break;
            case 7: same("listen " + n, g.listen(n), m.listen(n)); break;
            default: same("lonely", g.lonely(), m.lonely());
        }
    }

    private void judgeOne() {
        int i = some(-1, 5);
        int r = some(1, 9);
        int k = some(0, 9);
        int t = some(0, 9);
        int set = some(0, (1 << m.s.horses.size()) - 1);
        int w = some(0, 98);
        int v = upTo(2) == 0 ? some(0, 12) * 8 : some(0, 99);
        boolean low = upTo(2) == 0;
        switch (upTo(11)) {
            case 0: case 1: same("manned " + i, g.manned(i), m.manned(i)); break;
            case 2: same("below " + r + " " + k + " " + t + " " + low, g.below(r, k, t, low), m.below(r, k, t, low)); break;
            case 3: same("gale " + set + " " + r + " " + k + " " + low, g.gale(set, r, k, low), m.gale(set, r, k, low)); break;
            case 4: same("ropes " + k, g.ropes(k), m.ropes(k)); break;
            case 5: same("oilings " + w + " " + low, g.oilings(w, low), m.oilings(w, low)); break;
            case 6: same("show " + v, g.show(v), m.show(v)); break;
            case 7: same("whose", g.whose(), m.whose()); break;
            case 8: same("slid " + i, g.slid(i), m.slid(i)); break;
            case 9: same("inStep", g.inStep(), m.inStep()); break;
            default: same("veterans " + r, g.veterans(r), m.veterans(r)); same("tiredest", g.tiredest(), m.tiredest());
        }
    }

    private void listOne() {
        int h = some(0, 7);
        int a = some(1, 9);
        int b = some(1, 9);
        int at = upTo(2) == 0 ? some(0, 9999) : m.s.minute;
        int creaks = upTo(3) == 0 ? some(0, 8) : upTo(3);
        int wear = some(0, 98);
        int rocking = some(0, 8);
        int seen = upTo(2) == 0 ? some(0, 99) : clampSeen(rocking);
        switch (upTo(6)) {
            case 0: same("heard " + at + " " + creaks, g.heard(at, creaks), m.heard(at, creaks)); break;
            case 1: case 2: same("watch " + h + " " + a + " " + b, g.watch(h, a, b), m.watch(h, a, b)); break;
            case 3: same("haul " + wear, g.haul(wear), m.haul(wear)); break;
            case 4: same("counted " + rocking + " " + seen, g.counted(rocking, seen), m.counted(rocking, seen)); break;
            default: forgetOne();
        }
    }

    private int clampSeen(int rocking) {
        int t = m.s.texts.isEmpty() ? -1 : upTo(m.s.texts.size());
        return Model.seen(m.s, t < 0 ? null : m.s.texts.get(t), rocking);
    }

    private void forgetOne() {
        int any = some(0, 9);
        switch (upTo(8)) {
            case 0: same("heard -1 " + any, g.heard(-1, any), m.heard(-1, any)); break;
            case 1: same("watch -1 " + any, g.watch(-1, any, any), m.watch(-1, any, any)); break;
            case 2: same("haul -1", g.haul(-1), m.haul(-1)); break;
            case 3: same("counted -1 " + any, g.counted(-1, any), m.counted(-1, any)); break;
            default:
        }
    }

    private void readState() {
        int what = some(0, 9);
        int h = some(0, 7);
        int b = some(0, 5);
        int i = some(-1, 29);
        same("about " + what, g.about(what), m.about(what));
        same("is " + what, g.is(what), m.is(what));
        same("ofHorse " + h + " " + what, g.ofHorse(h, what), m.ofHorse(h, what));
        same("ofBoy " + b + " " + what, g.ofBoy(b, what), m.ofBoy(b, what));
        same("book " + i + " " + what, g.book(i, what), m.book(i, what));
        same("fault " + what, g.fault(what), m.fault(what));
        int t = some(-1, 3);
        same("by " + t, g.by(t), m.by(t));
    }

    /** Looks at all that there is, then takes back all that can be, looking at each. */
    private void undoAll() {
        lookAtAll();
        for (int i = 0; i < 31 && wrong == 0; i++) {
            same("undo", g.undo(), m.undo());
            lookAtAll();
        }
        same("back", g.back(), m.back());
        lookAtAll();
        same("undo", g.undo(), m.undo());
        lookAtAll();
    }

    private void lookAtAll() {
        for (int what = -1; what <= 10; what++) {
            same("about " + what, g.about(what), m.about(what));
            same("is " + what, g.is(what), m.is(what));
            for (int h = -1; h <= 8; h++) same("ofHorse " + h + " " + what, g.ofHorse(h, what), m.ofHorse(h, what));
            for (int b = -1; b <= 6; b++) same("ofBoy " + b + " " + what, g.ofBoy(b, what), m.ofBoy(b, what));
        }
        for (int i = -1; i <= 30; i++) {
            for (int what = 0; what <= 3; what++) same("book " + i + " " + what, g.book(i, what), m.book(i, what));
        }
    }

    private void write() {
        String text = spoil(drawText());
        if (text.length() > 300) text = text.substring(0, 300);
        same("end 0", g.end(0), m.end(0));
        while (m.tape.length() < text.length()) {
            int[] five = new int[5];
            for (int i = 0; i < 20; i++) {
                int at = m.tape.length() + i;
                five[i / 4] = five[i / 4] << 8 | (at < text.length() ? text.charAt(at) : 0);
            }
            same("feed", g.feed(five[0], five[1], five[2], five[3], five[4]), m.feed(five));
        }
        if (upTo(30) == 0) same("feed more", g.feed(1, 2, 3, 4, 5), m.feed(1, 2, 3, 4, 5));
        int n = upTo(30) == 0 ? some(0, 300) : text.length();
        same("end " + n, g.end(n), m.end(n));
        same("text() of '" + text + "'", g.text(), m.text());
        same("fault 0", g.fault(0), m.fault(0));
        same("fault 1", g.fault(1), m.fault(1));
        if (m.fault == 0 && upTo(3) > 0) {
            int t = m.s.texts.size() - 1;
            same("by " + t, g.by(t), m.by(t));
        }
    }

    private String spoil(String text) {
        StringBuilder s = new StringBuilder(text);
        if (upTo(2) == 0) return text;
        for (int i = 1 + upTo(2); i > 0; i--) {
            int at = upTo(s.length() + 1);
            String token = TOKENS[upTo(TOKENS.length)];
            switch (upTo(4)) {
                case 0: s.insert(at, " " + token + " "); break;
                case 1: s.insert(at, token); break;
                case 2: s.delete(at, Math.min(s.length(), at + 1 + upTo(3))); break;
                default: s.setLength(at);
            }
        }
        return s.toString();
    }

    private String drawText() {
        StringBuilder s = new StringBuilder();
        int clauses = upTo(12) == 0 ? 20 + upTo(8) : upTo(9);
        for (int i = 0; i < clauses; i++) {
            int room = 300 - s.length();
            String clause = drawClause();
            if (clause.length() <= room || upTo(40) == 0) s.append(clause);
        }
        return s.toString();
    }

    private String drawClause() {
        int laws = upTo(3);
        switch (upTo(15)) {
            case 0: case 1: return "wears " + sum(laws, 0) + ";";
            case 2: case 3: return "tires " + sum(laws, 1) + ";";
            case 4: case 5: return "seen " + sum(laws, 2) + ";";
            case 6: int beat = 1 + upTo(9); return "horse " + beat + " shift " + upTo(upTo(30) == 0 ? 10 : beat) + ";";
            case 7: return "boy " + number(1, 9) + "; ";
            case 8: return "limit " + number(1, 8) + ";\n";
            case 9: case 10: return "mount " + number(0, 5) + " on " + number(0, 7) + ";";
            case 11: return "off " + number(0, 5) + ";";
            case 12: return "oil " + number(0, 7) + ";";
            case 13: return "nail" + number(0, 7) + "to" + number(0, 8) + ";";
            default: return "minute " + number(1, upTo(3) == 0 ? 60 : 5) + ";";
        }
    }

    private int number(int from, int to) {
        return upTo(60) == 0 ? upTo(70) : from + upTo(to - from + 1);
    }

    private String sum(int depth, int law) {
        StringBuilder s = new StringBuilder(product(depth, law));
        while (upTo(3) == 0) s.append(upTo(2) == 0 ? " + " : "-").append(product(depth, law));
        return s.toString();
    }

    private String product(int depth, int law) {
        StringBuilder s = new StringBuilder(one(depth, law));
        while (upTo(4) == 0) s.append(upTo(2) == 0 ? "*" : " / ").append(one(depth, law));
        return s.toString();
    }

    private String one(int depth, int law) {
        if (depth <= 0) {
            if (upTo(2) == 0) return String.valueOf(upTo(6) == 0 ? upTo(10000) : upTo(12));
            int names = upTo(60) == 0 ? 9 : law == 0 ? 7 : law == 1 ? 9 : 3;
            return NAMES[upTo(names)];
        }
        switch (upTo(10)) {
            case 0: case 1: return "(" + sum(depth - 1, law) + ")";
            case 2: return "- " + one(depth - 1, law);
            case 3: return "sign " + one(depth - 1, law);
            case 4: return "beat " + one(depth - 1, law);
            case 5: case 6: case 7: return "if " + either(depth - 1, law) + " then " + sum(depth - 1, law) + " else " + sum(depth - 1, law) + " end";
            default: return one(0, law);
        }
    }

    private String either(int depth, int law) {
        StringBuilder s = new StringBuilder(ask(depth, law));
        while (upTo(3) == 0) s.append(upTo(2) == 0 ? " or " : " and ").append(ask(depth, law));
        return s.toString();
    }

    private String ask(int depth, int law) {
        if (upTo(5) == 0) return "not " + ask(depth, law);
        String[] how = {" meets ", "<", "<=", " > ", ">=", "=", "#"};
        return sum(depth, law) + how[upTo(how.length)] + sum(depth, law);
    }
}
