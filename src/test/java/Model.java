import java.math.BigInteger;
import java.util.ArrayDeque;
import java.util.ArrayList;
import java.util.Arrays;
import java.util.Comparator;
import java.util.Deque;
import java.util.List;
import java.util.function.IntPredicate;
import java.util.stream.Collectors;
import java.util.stream.IntStream;

/** The document once more, written for plainness alone and with the whole Java library, to hold the program against. */
final class Model {
    static final class Horse {
        int beat, shift, told, wear;

        Horse copy() {
            Horse h = new Horse();
            h.beat = beat;
            h.shift = shift;
            h.told = told;
            h.wear = wear;
            return h;
        }
    }

    static final class Boy {
        int size, tired, on = -1;

        Boy copy() {
            Boy b = new Boy();
            b.size = size;
            b.tired = tired;
            b.on = on;
            return b;
        }
    }

    /** All that an image holds. */
    static final class State {
        List<Horse> horses = new ArrayList<>();
        List<Boy> boys = new ArrayList<>();
        int snow = 0, limit = 3, oil = 9, minute = 0, x = 151;
        List<int[]> book = new ArrayList<>();
        Deque<State> steps = new ArrayDeque<>();
        List<Text> texts = new ArrayList<>();
        int ruling = -1;
        List<int[]> heard = new ArrayList<>(), watches = new ArrayList<>(), counted = new ArrayList<>();
        List<Integer> hauls = new ArrayList<>();

        State copy() {
            State s = new State();
            horses.forEach(h -> s.horses.add(h.copy()));
            boys.forEach(b -> s.boys.add(b.copy()));
            s.snow = snow;
            s.limit = limit;
            s.oil = oil;
            s.minute = minute;
            s.x = x;
            s.book.addAll(book);
            s.steps.addAll(steps);
            s.texts.addAll(texts);
            s.ruling = ruling;
            s.heard.addAll(heard);
            s.watches.addAll(watches);
            s.counted.addAll(counted);
            s.hauls.addAll(hauls);
            return s;
        }
    }

    interface Sum {
        long of(Asked a);
    }

    interface Ask {
        boolean of(Asked a);
    }

    /** What a law can name. */
    record Asked(State s, int horse, int boy, int rocking) {
        long named(String name) {
            switch (name) {
                case "minute": return s.minute;
                case "snow": return s.snow;
                case "rocking": return rocking;
                case "horse": return horse;
                case "wear": return s.horses.get(horse).wear;
                case "rider":
                case "who": return boy;
                case "size": return boy < 0 ? 0 : s.boys.get(boy).size;
                case "tired": return s.boys.get(boy).tired;
                default: throw new IllegalStateException(name);
            }
        }
    }

    record Clause(String word, int first, int second) {
    }

    static final class Text {
        Sum wears, tires, seen;
        List<Clause> clauses = new ArrayList<>();
    }

    static final class Fault extends RuntimeException {
        private static final long serialVersionUID = 1L;
        final int kind, place;

        Fault(int kind, int place) {
            this.kind = kind;
            this.place = place;
        }
    }

    record Token(String is, int place) {
        boolean number() {
            return !is.isEmpty() && Character.isDigit(is.charAt(0));
        }
    }

    /** Reads a text by going down its rules, each with a token in hand. */
    static final class Parser {
        final List<Token> tokens = new ArrayList<>();
        final Text text = new Text();
        int at = 0;
        String law = "";

        Parser(String s) {
            var m = java.util.regex.Pattern.compile("[ \n]+|[a-zA-Z]+|[0-9]+|<=|>=|(?s:.)").matcher(s);
            while (m.find()) {
                if (!m.group().matches("[ \n]+")) tokens.add(new Token(m.group(), m.start()));
            }
            tokens.add(new Token("", s.length()));
        }

        Token here() {
            return tokens.get(at);
        }

        boolean sees(String... words) {
            return Arrays.asList(words).contains(here().is);
        }

        Fault bad(int kind) {
            return new Fault(kind, here().place);
        }

        void take(String word) {
            if (!sees(word)) throw bad(1);
            at++;
        }

        int number(int from, int to) {
            if (!here().number()) throw bad(1);
            BigInteger n = new BigInteger(here().is);
            if (n.compareTo(BigInteger.valueOf(from)) < 0 || n.compareTo(BigInteger.valueOf(to)) > 0) throw bad(2);
            at++;
            return n.intValue();
        }

        Text all() {
            while (!sees("")) clause();
            return text;
        }

        void clause() {
            if (!sees("wears", "tires", "seen", "horse", "boy", "limit", "mount", "off", "oil", "nail", "minute")) throw bad(1);
            String word = here().is;
            if (sees("wears", "tires", "seen") && text.clauses.stream().anyMatch(c -> c.word.equals(word))) throw bad(4);
            if (text.clauses.size() == 24) throw bad(6);
            at++;
            int first = 0, second = 0;
            text.clauses.add(new Clause(word, 0, 0));
            switch (word) {
                case "wears": law = word; text.wears = sum(0); break;
                case "tires": law = word; text.tires = sum(0); break;
                case "seen": law = word; text.seen = sum(0); break;
                case "horse": first = number(1, 9); take("shift"); second = number(0, first - 1); break;
                case "boy": first = number(1, 9); break;
                case "limit": first = number(1, 8); break;
                case "mount": first = number(0, 5); take("on"); second = number(0, 7); break;
                case "off": first = number(0, 5); break;
                case "oil": first = number(0, 7); break;
                case "nail": first = number(0, 7); take("to"); second = number(0, 8); break;
                default: first = number(1, 60);
            }
            take(";");
            text.clauses.set(text.clauses.size() - 1, new Clause(word, first, second));
        }

        static long cap(long n) {
            return Math.max(-1000000, Math.min(1000000, n));
        }

        Sum sum(int open) {
            Sum left = product(open);
            while (sees("+", "-")) {
                boolean plus = sees("+");
                at++;
                Sum a = left, b = product(open);
                left = plus ? e -> cap(a.of(e) + b.of(e)) : e -> cap(a.of(e) - b.of(e));
            }
            return left;
        }

        Sum product(int open) {
            Sum left = one(open);
            while (sees("*", "/")) {
                boolean times = sees("*");
                at++;
                Sum a = left, b = one(open);
                left = times ? e -> cap(a.of(e) * b.of(e)) : e -> b.of(e) == 0 ? 0 : a.of(e) / b.of(e);
            }
            return left;
        }

        int opened(int open) {
            if (open == 8) throw bad(3);
            at++;
            return open + 1;
        }

        Sum one(int open) {
            if (here().number()) {
                int n = number(0, 9999);
                return e -> n;
            }
            if (sees("(")) {
                Sum in = sum(opened(open));
                take(")");
                return in;
            }
            if (sees("-")) {
                Sum in = one(opened(open));
                return e -> -in.of(e);
            }
            if (sees("sign")) {
                Sum in = one(opened(open));
                return e -> Long.signum(in.of(e));
            }
            if (sees("beat")) {
                Sum in = one(opened(open));
                return e -> {
                    long h = in.of(e);
                    return h >= 0 && h < e.s.horses.size() ? e.s.horses.get((int) h).beat : 0;
                };
            }
            if (sees("if")) {
                int inside = opened(open);
                Ask when = either(inside);
                take("then");
                Sum yes = sum(inside);
                take("else");
                Sum no = sum(inside);
                take("end");
                return e -> when.of(e) ? yes.of(e) : no.of(e);
            }
            return name();
        }

        Sum name() {
            if (!sees("minute", "snow", "rocking", "horse", "wear", "rider", "size", "tired", "who")) throw bad(1);
            boolean horses = sees("horse", "wear", "rider", "size"), boys = sees("tired", "who");
            if (horses && law.equals("seen") || boys && !law.equals("tires")) throw bad(5);
            String name = here().is;
            at++;
            return e -> e.named(name);
        }

        Ask either(int open) {
            Ask left = both(open);
            while (sees("or")) {
                at++;
                Ask a = left, b = both(open);
                left = e -> a.of(e) | b.of(e);
            }
            return left;
        }

        Ask both(int open) {
            Ask left = ask(open);
            while (sees("and")) {
                at++;
                Ask a = left, b = ask(open);
                left = e -> a.of(e) & b.of(e);
            }
            return left;
        }

        Ask ask(int open) {
            if (sees("not")) {
                Ask in = ask(opened(open));
                return e -> !in.of(e);
            }
            Sum a = sum(open);
            if (!sees("meets", "<", "<=", ">", ">=", "=", "#")) throw bad(1);
            String how = here().is;
            at++;
            Sum b = sum(open);
            switch (how) {
                case "meets": return e -> meet(a.of(e), b.of(e));
                case "<": return e -> a.of(e) < b.of(e);
                case "<=": return e -> a.of(e) <= b.of(e);
                case ">": return e -> a.of(e) > b.of(e);
                case ">=": return e -> a.of(e) >= b.of(e);
                case "=": return e -> a.of(e) == b.of(e);
                default: return e -> a.of(e) != b.of(e);
            }
        }

        static boolean meet(long a, long b) {
            return !BigInteger.valueOf(a).gcd(BigInteger.valueOf(b)).equals(BigInteger.ONE);
        }
    }

    State s = new State();
    State image = new State();
    StringBuilder tape = new StringBuilder();
    boolean hasRead = false;
    int fault = 0, place = -1;

    static boolean in(int n, int from, int to) {
        return n >= from && n <= to;
    }

    boolean horseTold(int h) {
        return in(h, 0, s.horses.size() - 1);
    }

    boolean boyTold(int b) {
        return in(b, 0, s.boys.size() - 1);
    }

    boolean setTold(int set) {
        return in(set, 0, (1 << s.horses.size()) - 1);
    }

    static int bits(int upTo, IntPredicate which) {
        return IntStream.range(0, upTo).filter(which).map(i -> 1 << i).sum();
    }

    static int clamp(long n, int most) {
        return (int) Math.max(0, Math.min(most, n));
    }

    static boolean due(State s, int h, int m) {
        return Math.floorMod(m - s.horses.get(h).shift, s.horses.get(h).beat) == 0;
    }

    static int rider(State s, int h) {
        return IntStream.range(0, s.boys.size()).filter(b -> s.boys.get(b).on == h).findFirst().orElse(-1);
    }

    static boolean able(State s, int h) {
        return rider(s, h) >= 0 && s.horses.get(h).wear < 99;
    }

    static int rocking(State s, int m) {
        return bits(s.horses.size(), h -> able(s, h) && due(s, h, m));
    }

    static Text ruling(State s) {
        return s.ruling < 0 ? null : s.texts.get(s.ruling);
    }

    static int wears(State s, int h, int rocking) {
        Text t = ruling(s);
        return t == null || t.wears == null ? 1 : clamp(t.wears.of(new Asked(s, h, rider(s, h), rocking)), 9);
    }

    static int tires(State s, int b, int rocked) {
        Text t = ruling(s);
        int h = s.boys.get(b).on;
        if (h < 0) return 0;
        if (t == null || t.tires == null) return (rocked & 1 << h) != 0 ? 1 : 0;
        return clamp(t.tires.of(new Asked(s, h, b, Integer.bitCount(rocked))), 9);
    }

    static int seen(State s, Text t, int rocking) {
        return t == null || t.seen == null ? 8 * rocking : clamp(t.seen.of(new Asked(s, -1, -1, rocking)), 99);
    }

    static int pass(State s) {
        int rocked = rocking(s, s.minute);
        int many = Integer.bitCount(rocked);
        for (int h = 0; h < s.horses.size(); h++) {
            if ((rocked & 1 << h) != 0) s.horses.get(h).wear = Math.min(99, s.horses.get(h).wear + wears(s, h, many));
        }
        List<Boy> resting = s.boys.stream().filter(b -> b.on < 0).collect(Collectors.toList());
        for (int b = 0; b < s.boys.size(); b++) {
            Boy boy = s.boys.get(b);
            if (boy.on < 0) continue;
            boy.tired = Math.min(9, boy.tired + tires(s, b, rocked));
            if (boy.tired == 9) boy.on = -1;
        }
        resting.forEach(b -> b.tired = Math.max(0, b.tired - 1));
        s.snow = Math.min(999, s.snow + many);
        int slid = 0;
        if (many >= s.limit) {
            slid = 1;
            s.book.add(new int[] {s.minute, s.snow, rocked});
            if (s.book.size() > 30) s.book.remove(0);
            s.snow = 0;
        }
        s.minute++;
        return slid;
    }

    void step() {
        State before = s.copy();
        before.steps.clear();
        s.steps.addLast(before);
        if (s.steps.size() > 30) s.steps.removeFirst();
    }

    int horse(int beat, int shift) {
        if (s.horses.size() == 8 || !in(beat, 1, 9) || !in(shift, 0, beat - 1)) return -1;
        Horse h = new Horse();
        h.beat = beat;
        h.shift = shift;
        h.told = shift;
        s.horses.add(h);
        return s.horses.size() - 1;
    }

    int boy(int size) {
        if (s.boys.size() == 6 || !in(size, 1, 9)) return -1;
        Boy b = new Boy();
        b.size = size;
        s.boys.add(b);
        return s.boys.size() - 1;
    }

    boolean limit(int n) {
        if (in(n, 1, 8)) s.limit = n;
        return in(n, 1, 8);
    }

    int feed(int... five) {
        if (tape.length() > 280) return -1;
        for (int word : five) {
            for (byte b : java.nio.ByteBuffer.allocate(4).putInt(word).array()) tape.append((char) (b & 255));
        }
        return tape.length();
    }

    int end(int n) {
        if (!in(n, 0, tape.length())) return -1;
        tape.setLength(n);
        return n;
    }

    int text() {
        if (s.texts.size() == 4) return -1;
        hasRead = true;
        String all = tape.toString();
        tape.setLength(0);
        try {
            s.texts.add(new Parser(all).all());
            fault = 0;
            place = -1;
            return s.texts.size() - 1;
        } catch (Fault f) {
            fault = f.kind;
            place = f.place;
            return -1;
        }
    }

    int fault(int what) {
        if (!hasRead) return -1;
        return what == 0 ? fault : what == 1 ? place : -1;
    }

    boolean by(int t) {
        if (!in(t, -1, s.texts.size() - 1)) return false;
        s.ruling = t;
        return true;
    }

    boolean canMount(int b, int h) {
        return boyTold(b) && horseTold(h) && s.boys.get(b).on < 0 && s.boys.get(b).tired < 9 && rider(s, h) < 0;
    }

    boolean mount(int b, int h) {
        if (!canMount(b, h)) return false;
        step();
        s.boys.get(b).on = h;
        return true;
    }

    int off(int b) {
        if (!boyTold(b) || s.boys.get(b).on < 0) return -1;
        step();
        int h = s.boys.get(b).on;
        s.boys.get(b).on = -1;
        return h;
    }

    int oil(int h) {
        if (!horseTold(h) || s.oil < 1) return -1;
        step();
        s.horses.get(h).wear = 0;
        return --s.oil;
    }

    boolean nail(int h, int shift) {
        if (!horseTold(h) || !in(shift, 0, s.horses.get(h).beat - 1) || s.horses.get(h).shift == shift) return false;
        step();
        s.horses.get(h).shift = shift;
        return true;
    }

    int minute(int n) {
        if (!in(n, 1, 60) || s.minute + n > 9999) return -1;
        int slides = 0;
        for (int i = 0; i < n; i++) {
            step();
            slides += pass(s);
        }
        return slides;
    }

    int played(int t) {
        if (!in(t, 0, s.texts.size() - 1)) return -2;
        List<Clause> clauses = s.texts.get(t).clauses;
        for (int i = 0; i < clauses.size(); i++) {
            if (!done(clauses.get(i))) return i;
        }
        return -1;
    }

    boolean done(Clause c) {
        switch (c.word) {
            case "horse": return horse(c.first, c.second) >= 0;
            case "boy": return boy(c.first) >= 0;
            case "limit": return limit(c.first);
            case "mount": return mount(c.first, c.second);
            case "off": return off(c.first) >= 0;
            case "oil": return oil(c.first) >= 0;
            case "nail": return nail(c.first, c.second);
            case "minute":
                int passed = 0;
                while (passed < c.first && minute(1) >= 0) passed++;
                return passed == c.first;
            default: return true;
        }
    }

    int winters(int seed, int n) {
        if (!in(seed, 0, 9999) || !in(n, 1, 40)) return -1;
        step();
        s.x = seed * 2 + 151;
        int boys = s.boys.size(), horses = s.horses.size();
        for (int i = 0; i < n; i++) {
            int x = s.x;
            s.x = (x * 383 + 263) % 30491;
            if (x % 6 < 2) {
                if (boys > 0 && horses > 0 && canMount(x % boys, x / 6 % horses)) s.boys.get(x % boys).on = x / 6 % horses;
            } else if (x % 6 == 2) {
                if (boys > 0 && x % 4 == 0) s.boys.get(x % boys).on = -1;
            } else if (x % 6 == 3) {
                if (horses > 0 && x % 5 == 0 && s.oil > 0) {
                    s.oil--;
                    s.horses.get(x % horses).wear = 0;
                }
            } else if (s.minute < 9999) {
                pass(s);
            }
        }
        return s.minute;
    }

    int undo() {
        if (s.steps.isEmpty()) return -1;
        State before = s.steps.removeLast();
        for (int h = 0; h < s.horses.size(); h++) {
            boolean then = h < before.horses.size();
            s.horses.get(h).shift = then ? before.horses.get(h).shift : s.horses.get(h).told;
            s.horses.get(h).wear = then ? before.horses.get(h).wear : 0;
        }
        for (int b = 0; b < s.boys.size(); b++) {
            boolean then = b < before.boys.size();
            s.boys.get(b).tired = then ? before.boys.get(b).tired : 0;
            s.boys.get(b).on = then ? before.boys.get(b).on : -1;
        }
        s.snow = before.snow;
        s.oil = before.oil;
        s.minute = before.minute;
        s.x = before.x;
        s.book = new ArrayList<>(before.book);
        return s.steps.size();
    }

    int ofHorse(int h, int what) {
        if (!horseTold(h)) return -2;
        Horse horse = s.horses.get(h);
        int now = rocking(s, s.minute);
        int[] all = {horse.beat, horse.shift, horse.wear, rider(s, h), now >> h & 1, wears(s, h, Integer.bitCount(now))};
        return in(what, 0, 5) ? all[what] : -2;
    }

    int ofBoy(int b, int what) {
        if (!boyTold(b)) return -2;
        Boy boy = s.boys.get(b);
        int[] all = {boy.size, boy.tired, boy.on, tires(s, b, rocking(s, s.minute))};
        return in(what, 0, 3) ? all[what] : -2;
    }

    int is(int what) {
        int many = Integer.bitCount(rocking(s, s.minute));
        int[] all = {s.minute, s.snow, s.limit, s.oil, s.x, seen(s, ruling(s), many), many};
        return in(what, 0, 6) ? all[what] : -2;
    }

    int book(int i, int what) {
        if (i == -1) return s.book.size();
        return in(i, 0, s.book.size() - 1) && in(what, 0, 2) ? s.book.get(i)[what] : -2;
    }

    int rocking(int m) {
        return in(m, 0, 9999) ? rocking(s, m) : -1;
    }

    int together(int set) {
        if (set == 0 || !setTold(set)) return -1;
        return IntStream.rangeClosed(s.minute, 9999).filter(m -> (dueSet(m) & set) == set).findFirst().orElse(-1);
    }

    int dueSet(int m) {
        return bits(s.horses.size(), h -> due(s, h, m));
    }

    int foretold(int n, int what, int of) {
        if (!in(n, 1, 60) || !in(what, 0, 2) || what == 1 && !horseTold(of) || what == 2 && !boyTold(of)) return -1;
        State t = s.copy();
        for (int i = 0; i < n && t.minute < 9999; i++) pass(t);
        return what == 0 ? t.snow : what == 1 ? t.horses.get(of).wear : t.boys.get(of).tired;
    }

    int firstSlide() {
        State t = s.copy();
        for (int i = 1; i <= 60 && t.minute < 9999; i++) {
            if (pass(t) == 1) return i;
        }
        return -1;
    }

    int unmanned() {
        State t = s.copy();
        for (int i = 0; i <= 60; i++) {
            if (t.boys.stream().allMatch(b -> b.on < 0)) return i;
            if (t.minute == 9999) return -1;
            pass(t);
        }
        return -1;
    }

    List<Integer> sets() {
        return IntStream.range(0, 1 << s.horses.size()).boxed().collect(Collectors.toList());
    }

    int safe(int n, int k) {
        if (!in(n, 1, 99) || !in(k, 1, 8)) return -1;
        int[] due = IntStream.range(0, n).map(i -> dueSet(s.minute + i)).toArray();
        return sets().stream().filter(set -> Arrays.stream(due).allMatch(d -> Integer.bitCount(d & set) < k))
                .min(Comparator.comparing((Integer set) -> -Integer.bitCount(set)).thenComparing(set -> set)).get();
    }

    static int list(List<int[]> all, int most, int... one) {
        if (all.size() == most) return -2;
        all.add(one);
        return all.size();
    }

    int heard(int m, int creaks) {
        if (m == -1) s.heard.clear();
        if (m == -1) return 0;
        return in(m, 0, 9999) && in(creaks, 0, 8) ? list(s.heard, 8, m, creaks) : -2;
    }

    List<Integer> fitting() {
        return sets().stream().filter(set -> s.heard.stream().allMatch(h -> Integer.bitCount(dueSet(h[0]) & set) == h[1]))
                .collect(Collectors.toList());
    }

    int rode(int what) {
        List<Integer> fit = fitting();
        if (what == 0) return fit.size();
        if (what == 1) return fit.isEmpty() ? 0 : bits(s.horses.size(), h -> fit.stream().allMatch(set -> (set >> h & 1) == 1));
        if (what == 2) return fit.isEmpty() ? 0 : bits(s.horses.size(), h -> fit.stream().noneMatch(set -> (set >> h & 1) == 1));
        return -1;
    }

    int listen(int n) {
        List<Integer> fit = fitting();
        if (!in(n, 1, 60) || fit.isEmpty()) return -1;
        long[] unlike = new long[n];
        for (int i = 0; i < n; i++) {
            int due = dueSet(s.minute + i);
            unlike[i] = fit.stream().map(set -> Integer.bitCount(set & due)).distinct().count();
        }
        long most = Arrays.stream(unlike).max().getAsLong();
        return IntStream.range(0, n).filter(i -> unlike[i] == most).findFirst().getAsInt();
    }

    int watch(int h, int a, int b) {
        if (h == -1) s.watches.clear();
        if (h == -1) return 0;
        return horseTold(h) && in(a, 1, 9) && in(b, a, 9) ? list(s.watches, 6, h, a, b) : -2;
    }

    int manned(int i) {
        if (!in(i, -1, s.watches.size() - 1)) return -2;
        int[] best = new int[s.watches.size()];
        Arrays.fill(best, 99);
        man(0, new int[best.length], best);
        if (i >= 0) return best[i] == 99 ? -1 : best[i];
        return (int) Arrays.stream(best).filter(b -> b != 99).count();
    }

    /** Tries each way to give boys to watches; 99 stands for none. */
    void man(int i, int[] tried, int[] best) {
        if (i == tried.length) {
            long many = Arrays.stream(tried).filter(b -> b != 99).count(), bestMany = Arrays.stream(best).filter(b -> b != 99).count();
            if (many > bestMany || many == bestMany && Arrays.compare(tried, best) < 0) System.arraycopy(tried, 0, best, 0, i);
            return;
        }
        for (int b = 0; b < s.boys.size(); b++) {
            int boy = b;
            boolean free = Arrays.stream(tried, 0, i).noneMatch(t -> t == boy);
            if (free && in(s.boys.get(b).size, s.watches.get(i)[1], s.watches.get(i)[2])) {
                tried[i] = b;
                man(i + 1, tried, best);
            }
        }
        tried[i] = 99;
        man(i + 1, tried, best);
    }

    static long term(BigInteger up, BigInteger down, boolean low) {
        return (low ? down : up).divide(up.gcd(down)).longValueExact();
    }

    long below(int r, int k, int t, boolean low) {
        if (!in(r, 1, 9) || !in(k, 0, 9) || !in(t, 0, 9)) return -1;
        // Each of so many is seen or not: all ways are gone through one by one.
        BigInteger all = BigInteger.ZERO, right = BigInteger.ZERO;
        for (int real = 0; real <= 9; real++) {
            BigInteger likely = BigInteger.ZERO;
            for (int set = 0; set < 1 << real; set++) {
                if (Integer.bitCount(set) == k) {
                    likely = likely.add(BigInteger.valueOf(r).pow(k).multiply(BigInteger.valueOf(10 - r).pow(real - k)));
                }
            }
            likely = likely.multiply(BigInteger.TEN.pow(9 - real));
            all = all.add(likely);
            if (real == t) right = likely;
        }
        return term(right, all, low);
    }

    long gale(int set, int g, int k, boolean low) {
        if (!setTold(set) || !in(g, 0, 10) || !in(k, 0, 8)) return -1;
        int many = Integer.bitCount(set);
        BigInteger right = BigInteger.ZERO;
        for (int stay = 0; stay < 1 << many; stay++) {
            int stays = Integer.bitCount(stay);
            if (stays >= k) right = right.add(BigInteger.valueOf(10 - g).pow(stays).multiply(BigInteger.valueOf(g).pow(many - stays)));
        }
        return term(right, BigInteger.TEN.pow(many), low);
    }

    int ropes(int n) {
        if (!in(n, 0, 8)) return -1;
        return sets().stream().filter(set -> Integer.bitCount(set) <= n)
                .filter(set -> IntStream.range(0, 8).allMatch(h -> (set >> h & 1) == 0 || rider(s, h) >= 0))
                .min(Comparator.comparing(this::lost).thenComparing(Integer::bitCount).thenComparing(set -> set)).get();
    }

    int lost(int roped) {
        return IntStream.range(0, s.horses.size()).filter(h -> (roped >> h & 1) == 0).map(h -> s.horses.get(h).wear).sum();
    }

    int haul(int wear) {
        if (wear == -1) s.hauls.clear();
        if (wear == -1) return 0;
        if (!in(wear, 0, 98) || s.hauls.size() == 8) return -2;
        s.hauls.add(wear);
        return s.hauls.size();
    }

    int oilings(int w, boolean days) {
        if (!in(w, 0, 98)) return -1;
        int best = IntStream.range(0, 1 << s.hauls.size()).filter(set -> lasts(set, w)).boxed()
                .min(Comparator.comparing((Integer set) -> Integer.bitCount(set)).thenComparing((a, b) -> Arrays.compare(dayList(b), dayList(a)))).get();
        return days ? best : Integer.bitCount(best);
    }

    int[] dayList(int set) {
        return IntStream.range(0, 8).filter(d -> (set >> d & 1) == 1).toArray();
    }

    boolean lasts(int set, int w) {
        int wear = w;
        for (int d = 0; d < s.hauls.size(); d++) {
            wear = ((set >> d & 1) == 1 ? 0 : wear) + s.hauls.get(d);
            if (wear >= 99) return false;
        }
        return true;
    }

    int show(int v) {
        if (!in(v, 0, 99)) return -1;
        return sets().stream().filter(set -> IntStream.range(0, 8).allMatch(h -> (set >> h & 1) == 0 || able(s, h)))
                .filter(set -> seen(s, ruling(s), Integer.bitCount(set)) == v)
                .min(Comparator.comparing((Integer set) -> Integer.bitCount(set)).thenComparing(set -> set)).orElse(-1);
    }

    int counted(int rocking, int seen) {
        if (rocking == -1) s.counted.clear();
        if (rocking == -1) return 0;
        return in(rocking, 0, 8) && in(seen, 0, 99) ? list(s.counted, 8, rocking, seen) : -2;
    }

    int whose() {
        return bits(s.texts.size(), t -> s.counted.stream().allMatch(c -> seen(s, s.texts.get(t), c[0]) == c[1]));
    }

    int slid(int h) {
        if (h == -1) return s.book.stream().mapToInt(b -> b[1]).sum();
        return horseTold(h) ? (int) s.book.stream().filter(b -> (b[2] >> h & 1) == 1).count() : -2;
    }

    int inStep() {
        int n = s.horses.size();
        return bits(n, a -> IntStream.range(0, n).anyMatch(b -> a != b && s.horses.get(a).beat == s.horses.get(b).beat
                && s.horses.get(a).shift == s.horses.get(b).shift));
    }

    int tiredest() {
        return IntStream.range(0, s.boys.size()).boxed().max(Comparator.comparing((Integer b) -> s.boys.get(b).tired).thenComparing(b -> -b)).orElse(-1);
    }

    int veterans(int size) {
        return in(size, 1, 9) ? bits(s.boys.size(), b -> s.boys.get(b).size >= size) : -1;
    }

    int lonely() {
        int n = s.horses.size();
        return IntStream.range(0, n).filter(a -> IntStream.range(s.minute, s.minute + 60).noneMatch(
                m -> due(s, a, m) && IntStream.range(0, n).anyMatch(b -> a != b && due(s, b, m)))).findFirst().orElse(-1);
    }

    int image() {
        image = s.copy();
        return s.minute;
    }

    int back() {
        s = image.copy();
        return s.minute;
    }

    int about(int what) {
        int[] all = {s.horses.size(), s.boys.size(), s.texts.size(), s.ruling, s.steps.size(), s.heard.size(),
            s.watches.size(), s.hauls.size(), s.counted.size(), tape.length()};
        return in(what, 0, 9) ? all[what] : -2;
    }
}
