import java.util.Arrays;

/** A terrace of rocking horses above a pass, as ../shared/DOC.md tells it; README.md says how it is used. */
public final class RockingGuard {
    public static final int NONE = -1;

    private static final int WRONG = -2;
    private static final int MOST_HORSES = 8;
    private static final int MOST_BOYS = 6;
    private static final int MOST_BEAT = 9;
    private static final int MOST_SIZE = 9;
    private static final int MOST_TEXTS = 4;
    private static final int MOST_BYTES = 300;
    private static final int MOST_CLAUSES = 24;
    private static final int MOST_STEPS = 30;
    private static final int MOST_SLIDES = 30;
    private static final int MOST_TOLD = 8;
    private static final int MOST_WATCHES = 6;
    private static final int MOST_AHEAD = 60;
    private static final int MOST_SAFE = 99;
    private static final int MOST_DRAWS = 40;
    private static final int MOST_REAL = 9;
    private static final int LAST_MINUTE = 9999;
    private static final int WORN = 99;
    private static final int WEARY = 9;
    private static final int MOST_SNOW = 999;
    private static final int MOST_SEEN = 99;
    private static final int FIRST_X = 151;
    // All BEATS come round again within this many MINUTES: their least common multiple.
    private static final int ROUND = 2520;

    // The three laws are the first words, so that a law's number is its word's number.
    private static final String WORDS =
            "wears tires seen horse boy limit mount off oil nail minute shift on to sign beat if then else end or and not meets snow wear rider size tired who rocking ";
    private static final int WEARS = 0;
    private static final int TIRES = 1;
    private static final int SEEN = 2;
    private static final int HORSE = 3;
    private static final int BOY = 4;
    private static final int LIMIT = 5;
    private static final int MOUNT = 6;
    private static final int OFF = 7;
    private static final int OIL = 8;
    private static final int NAIL = 9;
    private static final int MINUTE = 10;
    private static final int SHIFT = 11;
    private static final int ON = 12;
    private static final int TO = 13;
    private static final int SIGN = 14;
    private static final int BEAT = 15;
    private static final int IF = 16;
    private static final int THEN = 17;
    private static final int ELSE = 18;
    private static final int END = 19;
    private static final int OR = 20;
    private static final int AND = 21;
    private static final int NOT = 22;
    private static final int MEETS = 23;
    private static final int SNOW = 24;
    private static final int WEAR = 25;
    private static final int RIDER = 26;
    private static final int SIZE = 27;
    private static final int TIRED = 28;
    private static final int WHO = 29;
    private static final int ROCKING = 30;
    private static final int NUMBER = 31;
    private static final int LESS = 32;
    private static final int LESS_OR_LIKE = 33;
    private static final int MORE = 34;
    private static final int MORE_OR_LIKE = 35;
    private static final int LIKE = 36;
    private static final int UNLIKE = 37;
    private static final int PLUS = 38;
    private static final int MINUS = 39;
    private static final int TIMES = 40;
    private static final int OVER = 41;
    private static final int OPEN = 42;
    private static final int CLOSE = 43;
    private static final int STOP = 44;
    private static final int FINISH = 45;
    private static final int STRANGE = 46;
    // These come from no TOKEN of their own: they stand in a law's code alone.
    private static final int NAME = 47;
    private static final int NEGATE = 48;
    private static final int UNLESS = 49;
    private static final int JUMP = 50;

    private static final int LAWS = 3;
    private static final int NAMES = 9;
    private static final int MOST_OPEN = 8;
    // Each of 8 open ones leaves 5 values waiting at most (of or, and, an ASK, a SUM, a PRODUCT), and 2 wait outside.
    private static final int DEEPEST = 64;
    private static final int HIGHEST_NUMBER = 9999;
    private static final int HIGHEST_VALUE = 1000000;
    // NAMES are numbered so that each law has those from 0 to one of these.
    private static final int[] LAST_NAME = {6, 8, 2};

    // What the CLAUSES from horse to minute have, each at its word's number less HORSE.
    private static final int[] FIRST_LEAST = {1, 1, 1, 0, 0, 0, 0, 1};
    private static final int[] FIRST_MOST = {9, 9, 8, 5, 5, 7, 7, 60};
    private static final int[] BETWEEN = {SHIFT, NONE, NONE, ON, NONE, NONE, TO, NONE};
    private static final int[] SECOND_MOST = {8, 0, 0, 7, 0, 0, 8, 0};

    private final World now = new World();
    private final World kept = new World();
    private final Script[] scripts = new Script[MOST_TEXTS];
    private final Reader reader = new Reader();
    private final Judge judge = new Judge();
    private final Terrace trial = new Terrace();
    private final Ears ears = new Ears();
    private final Roster roster = new Roster();

    public RockingGuard() {
        for (int i = 0; i < MOST_TEXTS; i++) {
            scripts[i] = new Script();
        }
    }

    public int horse(int beat, int shift) {
        return now.terrace.addHorse(beat, shift);
    }

    public int boy(int size) {
        return now.terrace.addBoy(size);
    }

    public boolean limit(int limit) {
        if (!isWithin(limit, 1, MOST_HORSES)) {
            return false;
        }
        now.terrace.limit = limit;
        return true;
    }

    public int feed(int a, int b, int c, int d, int e) {
        return reader.takeBytes(a, b, c, d, e);
    }

    public int end(int n) {
        return reader.cutTo(n);
    }

    public int text() {
        int number = now.texts;
        if (!isWithin(number, 0, MOST_TEXTS - 1)) {
            return NONE;
        }
        reader.readTape();
        if (reader.fault != 0) {
            return NONE;
        }
        // The draft and the free place change hands, so that reading never writes over a text.
        Script free = scripts[number];
        scripts[number] = reader.draft;
        reader.draft = free;
        now.texts = number + 1;
        return number;
    }

    public int fault(int what) {
        if (!reader.hasRead) {
            return NONE;
        }
        switch (what) {
            case 0: return reader.fault;
            case 1: return reader.place;
            default: return NONE;
        }
    }

    public boolean by(int text) {
        if (text != NONE && !isText(text)) {
            return false;
        }
        now.ruling = text;
        return true;
    }

    public boolean mount(int boy, int horse) {
        Terrace terrace = now.terrace;
        if (!terrace.canMount(boy, horse)) {
            return false;
        }
        now.steps.save(terrace);
        terrace.seat(boy, horse);
        return true;
    }

    public int off(int boy) {
        Terrace terrace = now.terrace;
        int horse = terrace.seatOf(boy);
        if (horse == NONE) {
            return NONE;
        }
        now.steps.save(terrace);
        terrace.unseat(boy);
        return horse;
    }

    public int oil(int horse) {
        Terrace terrace = now.terrace;
        if (!terrace.canOil(horse)) {
            return NONE;
        }
        now.steps.save(terrace);
        return terrace.grease(horse);
    }

    public boolean nail(int horse, int shift) {
        Terrace terrace = now.terrace;
        if (!terrace.canNail(horse, shift)) {
            return false;
        }
        now.steps.save(terrace);
        terrace.shiftTo(horse, shift);
        return true;
    }

    public int minute(int n) {
        if (!isWithin(n, 1, MOST_AHEAD) || now.terrace.thisMinute() + n > LAST_MINUTE) {
            return NONE;
        }
        int slides = 0;
        for (int i = 0; i < n; i++) {
            now.steps.save(now.terrace);
            slides += now.terrace.passMinute(judge, ruling()) ? 1 : 0;
        }
        return slides;
    }

    public int played(int text) {
        if (!isText(text)) {
            return WRONG;
        }
        Script script = scriptAt(text);
        if (script == null) {
            return WRONG;
        }
        for (int i = 0; i < script.clauses; i++) {
            int kind = script.kindOf(i);
            int first = script.firstOf(i);
            if (kind == MINUTE ? !passAllThatCan(first) : !isDone(kind, first, script.secondOf(i))) {
                return i;
            }
        }
        return NONE;
    }

    public int winters(int seed, int n) {
        if (!isWithin(seed, 0, LAST_MINUTE) || !isWithin(n, 1, MOST_DRAWS)) {
            return NONE;
        }
        now.steps.save(now.terrace);
        now.terrace.beginDraws(seed);
        for (int i = 0; i < n; i++) {
            drawOne();
        }
        return now.terrace.thisMinute();
    }

    public int undo() {
        return now.steps.takeBack(now.terrace);
    }

    public int ofHorse(int horse, int what) {
        Terrace terrace = now.terrace;
        if (!terrace.isHorse(horse)) {
            return WRONG;
        }
        int minute = terrace.thisMinute();
        switch (what) {
            case 0: return terrace.beatOf(horse);
            case 1: return terrace.shiftOf(horse);
            case 2: return terrace.wearOf(horse);
            case 3: return terrace.riderOf(horse);
            case 4: return terrace.rocksAt(horse, minute) ? 1 : 0;
            case 5: return judge.wears(ruling(), terrace, horse, Integer.bitCount(terrace.rockingAt(minute)));
            default: return WRONG;
        }
    }

    public int ofBoy(int boy, int what) {
        Terrace terrace = now.terrace;
        if (!terrace.isBoy(boy)) {
            return WRONG;
        }
        switch (what) {
            case 0: return terrace.sizeOf(boy);
            case 1: return terrace.tiredOf(boy);
            case 2: return terrace.seatOf(boy);
            case 3: return judge.tires(ruling(), terrace, boy, terrace.rockingAt(terrace.thisMinute()));
            default: return WRONG;
        }
    }

    public int is(int what) {
        Terrace terrace = now.terrace;
        int many = Integer.bitCount(terrace.rockingAt(terrace.thisMinute()));
        switch (what) {
            case 0: return terrace.thisMinute();
            case 1: return terrace.snow();
            case 2: return terrace.limit;
            case 3: return terrace.oilLeft();
            case 4: return terrace.x();
            case 5: return judge.seen(ruling(), terrace, many);
            case 6: return many;
            default: return WRONG;
        }
    }

    public int book(int i, int what) {
        if (i == NONE) {
            return now.terrace.slides();
        }
        return now.terrace.slideAt(i, what);
    }

    public int rocking(int m) {
        return isWithin(m, 0, LAST_MINUTE) ? now.terrace.rockingAt(m) : NONE;
    }

    public int together(int horses) {
        Terrace terrace = now.terrace;
        if (horses == 0 || !terrace.isSet(horses)) {
            return NONE;
        }
        int first = terrace.thisMinute();
        int last = Math.min(LAST_MINUTE, first + ROUND);
        for (int m = first; m <= last; m++) {
            if ((terrace.dueAt(m) & horses) == horses) {
                return m;
            }
        }
        return NONE;
    }

    public int foretold(int n, int what, int of) {
        boolean asked = what == 0 || (what == 1 && now.terrace.isHorse(of)) || (what == 2 && now.terrace.isBoy(of));
        if (!asked || !isWithin(n, 1, MOST_AHEAD)) {
            return NONE;
        }
        trial.copyFrom(now.terrace);
        for (int i = 0; i < n && trial.canPass(); i++) {
            trial.passMinute(judge, ruling());
        }
        if (what == 0) {
            return trial.snow();
        }
        return what == 1 ? trial.wearOf(of) : trial.tiredOf(of);
    }

    public int firstSlide() {
        trial.copyFrom(now.terrace);
        for (int i = 1; i <= MOST_AHEAD && trial.canPass(); i++) {
            if (trial.passMinute(judge, ruling())) {
                return i;
            }
        }
        return NONE;
    }

    public int unmanned() {
        trial.copyFrom(now.terrace);
        if (trial.mannedSet() == 0) {
            return 0;
        }
        for (int i = 1; i <= MOST_AHEAD && trial.canPass(); i++) {
            trial.passMinute(judge, ruling());
            if (trial.mannedSet() == 0) {
                return i;
            }
        }
        return NONE;
    }

    public int safe(int n, int k) {
        if (!isWithin(n, 1, MOST_SAFE) || !isWithin(k, 1, MOST_HORSES)) {
            return NONE;
        }
        ears.markDue(now.terrace, n);
        int sets = 1 << now.terrace.horses();
        int best = 0;
        for (int set = 1; set < sets; set++) {
            if (Integer.bitCount(set) > Integer.bitCount(best) && ears.staysBelow(set, n, k)) {
                best = set;
            }
        }
        return best;
    }

    public int heard(int minute, int creaks) {
        if (minute == NONE) {
            return now.heard.forget();
        }
        if (!isWithin(minute, 0, LAST_MINUTE) || !isWithin(creaks, 0, MOST_HORSES)) {
            return WRONG;
        }
        return now.heard.add(minute, creaks, 0);
    }

    public int rode(int what) {
        ears.findSets(now.terrace, now.heard);
        switch (what) {
            case 0: return ears.found;
            case 1: return ears.sure();
            case 2: return ears.never(now.terrace);
            default: return NONE;
        }
    }

    public int listen(int n) {
        if (!isWithin(n, 1, MOST_AHEAD)) {
            return NONE;
        }
        ears.findSets(now.terrace, now.heard);
        ears.markDue(now.terrace, n);
        int best = NONE;
        int most = 0;
        for (int i = 0; i < n; i++) {
            int unlike = ears.unlikeCounts(i);
            if (unlike > most) {
                best = i;
                most = unlike;
            }
        }
        return best;
    }

    public int watch(int horse, int a, int b) {
        if (horse == NONE) {
            return now.watches.forget();
        }
        if (!now.terrace.isHorse(horse) || !isWithin(a, 1, MOST_SIZE) || !isWithin(b, a, MOST_SIZE)) {
            return WRONG;
        }
        return now.watches.add(horse, a, b);
    }

    public int manned(int i) {
        if (i != NONE && !isWithin(i, 0, now.watches.count - 1)) {
            return WRONG;
        }
        int many = roster.assign(now.watches, now.terrace);
        return i == NONE ? many : roster.boyOf(i);
    }

    public long below(int r, int k, int t, boolean low) {
        if (!isWithin(r, 1, 9) || !isWithin(k, 0, MOST_REAL) || !isWithin(t, 0, MOST_REAL)) {
            return NONE;
        }
        long all = 0;
        for (int real = 0; real <= MOST_REAL; real++) {
            all += Odds.weight(r, k, real);
        }
        return Odds.lowestTerm(Odds.weight(r, k, t), all, low);
    }

    public long gale(int horses, int g, int k, boolean low) {
        if (!now.terrace.isSet(horses) || !isWithin(g, 0, 10) || !isWithin(k, 0, MOST_HORSES)) {
            return NONE;
        }
        int many = Integer.bitCount(horses);
        long stay = 0;
        for (int j = k; j <= many; j++) {
            stay += Odds.choose(many, j) * Odds.power(10 - g, j) * Odds.power(g, many - j);
        }
        return Odds.lowestTerm(stay, Odds.power(10, many), low);
    }

    public int ropes(int n) {
        if (!isWithin(n, 0, MOST_HORSES)) {
            return NONE;
        }
        Terrace terrace = now.terrace;
        int manned = terrace.mannedSet();
        int best = 0;
        int bestSaved = 0;
        for (int set = 1; set <= manned; set++) {
            if ((set & ~manned) != 0 || Integer.bitCount(set) > n) {
                continue;
            }
            int saved = terrace.wearOfSet(set);
            boolean fewer = saved == bestSaved && Integer.bitCount(set) < Integer.bitCount(best);
            if (saved > bestSaved || fewer) {
                best = set;
                bestSaved = saved;
            }
        }
        return best;
    }

    public int haul(int wear) {
        if (wear == NONE) {
            return now.hauls.forget();
        }
        return isWithin(wear, 0, WORN - 1) ? now.hauls.add(wear, 0, 0) : WRONG;
    }

    public int oilings(int w, boolean days) {
        if (!isWithin(w, 0, WORN - 1)) {
            return NONE;
        }
        int sets = 1 << now.hauls.count;
        // Oiling ahead of every day always serves, since no haul alone wears a horse out.
        int best = sets - 1;
        for (int set = 0; set < sets; set++) {
            if (isLaterOrLess(set, best) && lastsAllWinter(set, w)) {
                best = set;
            }
        }
        return days ? best : Integer.bitCount(best);
    }

    public int show(int v) {
        if (!isWithin(v, 0, MOST_SEEN)) {
            return NONE;
        }
        Terrace terrace = now.terrace;
        int set = 0;
        int many = 0;
        for (int h = 0; h <= terrace.horses(); h++) {
            if (judge.seen(ruling(), terrace, many) == v) {
                return set;
            }
            if (terrace.canRock(h)) {
                set |= 1 << h;
                many++;
            }
        }
        return NONE;
    }

    public int counted(int rocking, int seen) {
        if (rocking == NONE) {
            return now.counted.forget();
        }
        if (!isWithin(rocking, 0, MOST_HORSES) || !isWithin(seen, 0, MOST_SEEN)) {
            return WRONG;
        }
        return now.counted.add(rocking, seen, 0);
    }

    public int whose() {
        int set = 0;
        for (int i = 0; i < now.texts; i++) {
            if (saysAllCounted(scriptAt(i))) {
                set |= 1 << i;
            }
        }
        return set;
    }

    public int slid(int horse) {
        if (horse != NONE && !now.terrace.isHorse(horse)) {
            return WRONG;
        }
        int all = 0;
        int slides = now.terrace.slides();
        for (int i = 0; i < slides; i++) {
            if (horse == NONE) {
                all += now.terrace.slideAt(i, 1);
            } else {
                all += now.terrace.slideAt(i, 2) >> horse & 1;
            }
        }
        return all;
    }

    public int inStep() {
        Terrace terrace = now.terrace;
        int set = 0;
        for (int h = 0; h < terrace.horses(); h++) {
            for (int other = 0; other < h; other++) {
                if (terrace.beatOf(h) == terrace.beatOf(other) && terrace.shiftOf(h) == terrace.shiftOf(other)) {
                    set |= 1 << h | 1 << other;
                }
            }
        }
        return set;
    }

    public int tiredest() {
        Terrace terrace = now.terrace;
        int best = NONE;
        int most = NONE;
        for (int b = 0; b < terrace.boys(); b++) {
            if (terrace.tiredOf(b) > most) {
                best = b;
                most = terrace.tiredOf(b);
            }
        }
        return best;
    }

    public int veterans(int s) {
        if (!isWithin(s, 1, MOST_SIZE)) {
            return NONE;
        }
        int set = 0;
        for (int b = 0; b < now.terrace.boys(); b++) {
            if (now.terrace.sizeOf(b) >= s) {
                set |= 1 << b;
            }
        }
        return set;
    }

    public int lonely() {
        Terrace terrace = now.terrace;
        int crowded = 0;
        for (int i = 0; i < MOST_AHEAD; i++) {
            int due = terrace.dueAt(terrace.thisMinute() + i);
            if (Integer.bitCount(due) > 1) {
                crowded |= due;
            }
        }
        for (int h = 0; h < terrace.horses(); h++) {
            if ((crowded >> h & 1) == 0) {
                return h;
            }
        }
        return NONE;
    }

    public int image() {
        kept.copyFrom(now);
        return now.terrace.thisMinute();
    }

    public int back() {
        now.copyFrom(kept);
        return now.terrace.thisMinute();
    }

    public int about(int what) {
        switch (what) {
            case 0: return now.terrace.horses();
            case 1: return now.terrace.boys();
            case 2: return now.texts;
            case 3: return now.ruling;
            case 4: return now.steps.count;
            case 5: return now.heard.count;
            case 6: return now.watches.count;
            case 7: return now.hauls.count;
            case 8: return now.counted.count;
            case 9: return reader.bytes;
            default: return WRONG;
        }
    }

    private static boolean isWithin(int n, int least, int most) {
        return n >= least && n <= most;
    }

    private boolean isText(int text) {
        return isWithin(text, 0, now.texts - 1);
    }

    private Script scriptAt(int text) {
        return isWithin(text, 0, MOST_TEXTS - 1) ? scripts[text] : null;
    }

    private Script ruling() {
        return scriptAt(now.ruling);
    }

    private boolean isDone(int clause, int first, int second) {
        switch (clause) {
            case HORSE: return horse(first, second) != NONE;
            case BOY: return boy(first) != NONE;
            case LIMIT: return limit(first);
            case MOUNT: return mount(first, second);
            case OFF: return off(first) != NONE;
            case OIL: return oil(first) != NONE;
            case NAIL: return nail(first, second);
            default: return true;
        }
    }

    private boolean passAllThatCan(int n) {
        for (int i = 0; i < n; i++) {
            if (!now.terrace.canPass()) {
                return false;
            }
            now.steps.save(now.terrace);
            now.terrace.passMinute(judge, ruling());
        }
        return true;
    }

    private void drawOne() {
        Terrace terrace = now.terrace;
        int x = terrace.drawX();
        int boys = terrace.boys();
        int horses = terrace.horses();
        int boy = boys > 0 ? x % boys : NONE;
        switch (x % 6) {
            case 0:
            case 1:
                int seat = horses > 0 ? x / 6 % horses : NONE;
                if (terrace.canMount(boy, seat)) {
                    terrace.seat(boy, seat);
                }
                break;
            case 2:
                if (x % 4 == 0) {
                    terrace.unseat(boy);
                }
                break;
            case 3:
                int dry = horses > 0 ? x % horses : NONE;
                if (x % 5 == 0 && terrace.canOil(dry)) {
                    terrace.grease(dry);
                }
                break;
            default:
                if (terrace.canPass()) {
                    terrace.passMinute(judge, ruling());
                }
                break;
        }
    }

    private boolean lastsAllWinter(int oiled, int w) {
        int wear = w;
        for (int day = 0; day < now.hauls.count; day++) {
            if ((oiled >> day & 1) != 0) {
                wear = 0;
            }
            wear += now.hauls.firstOf(day);
            if (wear >= WORN) {
                return false;
            }
        }
        return true;
    }

    private static boolean isLaterOrLess(int set, int than) {
        int many = Integer.bitCount(set);
        int thanMany = Integer.bitCount(than);
        if (many != thanMany) {
            return many < thanMany;
        }
        int unlike = set ^ than;
        // Of two sets of like size the one that has the earliest day that they don't share oils earlier.
        return (than & unlike & -unlike) != 0;
    }

    private boolean saysAllCounted(Script script) {
        for (int i = 0; i < now.counted.count; i++) {
            if (judge.seen(script, now.terrace, now.counted.firstOf(i)) != now.counted.secondOf(i)) {
                return false;
            }
        }
        return true;
    }

    /** All that an image holds; TEXTS by their count alone, since those that an image has are never written over. */
    private static final class World {
        final Terrace terrace = new Terrace();
        final Steps steps = new Steps();
        final Told heard = new Told(MOST_TOLD);
        final Told watches = new Told(MOST_WATCHES);
        final Told hauls = new Told(MOST_TOLD);
        final Told counted = new Told(MOST_TOLD);
        int texts = 0;
        int ruling = NONE;

        void copyFrom(World other) {
            terrace.copyFrom(other.terrace);
            steps.copyFrom(other.steps);
            heard.copyFrom(other.heard);
            watches.copyFrom(other.watches);
            hauls.copyFrom(other.hauls);
            counted.copyFrom(other.counted);
            texts = other.texts;
            ruling = other.ruling;
        }
    }

    /** The horses, the boys, the snow and the book. */
    private static final class Terrace {
        // What a STEP can change lies in one row, so that it is kept and taken back by one copy.
        static final int AT_SHIFT = 0;
        static final int AT_WEAR = 8;
        static final int AT_TIRED = 16;
        static final int AT_SEAT = 22;
        static final int AT_SNOW = 28;
        static final int AT_OIL = 29;
        static final int AT_MINUTE = 30;
        static final int AT_X = 31;
        static final int AT_HORSES = 32;
        static final int AT_BOYS = 33;
        static final int AT_SLIDES = 34;
        static final int AT_BOOK = 35;
        static final int SLIDE = 3;
        static final int ROW = AT_BOOK + MOST_SLIDES * SLIDE;

        final int[] row = new int[ROW];
        final int[] beats = new int[MOST_HORSES];
        final int[] sizes = new int[MOST_BOYS];
        int limit = 3;

        Terrace() {
            for (int b = 0; b < MOST_BOYS; b++) {
                row[AT_SEAT + b] = NONE;
            }
            row[AT_OIL] = 9;
            row[AT_X] = FIRST_X;
        }

        void copyFrom(Terrace other) {
            System.arraycopy(other.row, 0, row, 0, ROW);
            System.arraycopy(other.beats, 0, beats, 0, MOST_HORSES);
            System.arraycopy(other.sizes, 0, sizes, 0, MOST_BOYS);
            limit = other.limit;
        }

        int addHorse(int beat, int shift) {
            int horse = horses();
            if (horse >= MOST_HORSES || !isWithin(beat, 1, MOST_BEAT) || !isWithin(shift, 0, beat - 1)) {
                return NONE;
            }
            beats[horse] = beat;
            row[AT_SHIFT + horse] = shift;
            row[AT_HORSES] = horse + 1;
            return horse;
        }

        int addBoy(int size) {
            int boy = boys();
            if (boy >= MOST_BOYS || !isWithin(size, 1, MOST_SIZE)) {
                return NONE;
            }
            sizes[boy] = size;
            row[AT_BOYS] = boy + 1;
            return boy;
        }

        int horses() {
            return row[AT_HORSES];
        }

        int boys() {
            return row[AT_BOYS];
        }

        int thisMinute() {
            return row[AT_MINUTE];
        }

        int snow() {
            return row[AT_SNOW];
        }

        int oilLeft() {
            return row[AT_OIL];
        }

        int x() {
            return row[AT_X];
        }

        int slides() {
            return row[AT_SLIDES];
        }

        boolean isHorse(int h) {
            return h >= 0 && h < row[AT_HORSES] && h < MOST_HORSES;
        }

        boolean isBoy(int b) {
            return b >= 0 && b < row[AT_BOYS] && b < MOST_BOYS;
        }

        boolean isSet(int horses) {
            return horses >= 0 && horses < 1 << row[AT_HORSES];
        }

        int beatOf(int h) {
            return isHorse(h) ? beats[h] : 0;
        }

        int shiftOf(int h) {
            return isHorse(h) ? row[AT_SHIFT + h] : 0;
        }

        int wearOf(int h) {
            return isHorse(h) ? row[AT_WEAR + h] : 0;
        }

        int sizeOf(int b) {
            return isBoy(b) ? sizes[b] : 0;
        }

        int tiredOf(int b) {
            return isBoy(b) ? row[AT_TIRED + b] : 0;
        }

        int seatOf(int b) {
            return isBoy(b) ? row[AT_SEAT + b] : NONE;
        }

        int riderOf(int h) {
            for (int b = 0; b < MOST_BOYS; b++) {
                if (h >= 0 && row[AT_SEAT + b] == h) {
                    return b;
                }
            }
            return NONE;
        }

        /** A number of slide i, or WRONG if there is none such. */
        int slideAt(int i, int what) {
            if (!isWithin(i, 0, slides() - 1) || i >= MOST_SLIDES || !isWithin(what, 0, SLIDE - 1)) {
                return WRONG;
            }
            return row[AT_BOOK + i * SLIDE + what];
        }

        int wearOfSet(int set) {
            int all = 0;
            for (int h = 0; h < horses(); h++) {
                all += (set >> h & 1) * wearOf(h);
            }
            return all;
        }

        /** HORSES due at a MINUTE by BEAT and SHIFT alone. */
        int dueAt(int m) {
            int set = 0;
            for (int h = 0; h < horses(); h++) {
                int beat = beatOf(h);
                if (beat > 0 && (m - shiftOf(h)) % beat == 0) {
                    set |= 1 << h;
                }
            }
            return set;
        }

        /** HORSES that have a boy. */
        int mannedSet() {
            int set = 0;
            for (int b = 0; b < boys(); b++) {
                if (seatOf(b) != NONE) {
                    set |= 1 << seatOf(b);
                }
            }
            return set;
        }

        boolean canRock(int h) {
            return isHorse(h) && riderOf(h) != NONE && wearOf(h) < WORN;
        }

        int rockingAt(int m) {
            int set = dueAt(m) & mannedSet();
            for (int h = 0; h < horses(); h++) {
                if (wearOf(h) >= WORN) {
                    set &= ~(1 << h);
                }
            }
            return set;
        }

        boolean rocksAt(int h, int m) {
            return isHorse(h) && (rockingAt(m) >> h & 1) != 0;
        }

        boolean canMount(int b, int h) {
            return isBoy(b) && isHorse(h) && seatOf(b) == NONE && tiredOf(b) < WEARY && riderOf(h) == NONE;
        }

        void seat(int b, int h) {
            if (canMount(b, h)) {
                row[AT_SEAT + b] = h;
            }
        }

        void unseat(int b) {
            if (isBoy(b)) {
                row[AT_SEAT + b] = NONE;
            }
        }

        boolean canOil(int h) {
            return isHorse(h) && oilLeft() > 0;
        }

        int grease(int h) {
            if (canOil(h)) {
                row[AT_OIL]--;
                row[AT_WEAR + h] = 0;
            }
            return oilLeft();
        }

        boolean canNail(int h, int shift) {
            return isHorse(h) && isWithin(shift, 0, beatOf(h) - 1) && shift != shiftOf(h);
        }

        void shiftTo(int h, int shift) {
            if (canNail(h, shift)) {
                row[AT_SHIFT + h] = shift;
            }
        }

        boolean canPass() {
            return row[AT_MINUTE] < LAST_MINUTE;
        }

        /** A MINUTE passes, if it can: whether snow slid in it. */
        boolean passMinute(Judge judge, Script by) {
            if (!canPass()) {
                return false;
            }
            int rocked = rockingAt(thisMinute());
            int many = Integer.bitCount(rocked);
            for (int h = 0; h < horses(); h++) {
                if ((rocked >> h & 1) != 0) {
                    row[AT_WEAR + h] = Math.min(WORN, wearOf(h) + judge.wears(by, this, h, many));
                }
            }
            for (int b = 0; b < boys(); b++) {
                if (seatOf(b) == NONE) {
                    row[AT_TIRED + b] = Math.max(0, tiredOf(b) - 1);
                } else {
                    row[AT_TIRED + b] = Math.min(WEARY, tiredOf(b) + judge.tires(by, this, b, rocked));
                    if (tiredOf(b) == WEARY) {
                        unseat(b);
                    }
                }
            }
            row[AT_SNOW] = Math.min(MOST_SNOW, snow() + many);
            boolean slides = many >= limit;
            if (slides) {
                writeSlide(rocked);
                row[AT_SNOW] = 0;
            }
            row[AT_MINUTE]++;
            return slides;
        }

        void beginDraws(int seed) {
            row[AT_X] = seed * 2 + FIRST_X;
        }

        /** X as it was, X being anew. */
        int drawX() {
            int x = x();
            row[AT_X] = (x * 383 + 263) % 30491;
            return x;
        }

        private void writeSlide(int rocked) {
            int i = slides();
            if (i >= MOST_SLIDES) {
                i = MOST_SLIDES - 1;
                System.arraycopy(row, AT_BOOK + SLIDE, row, AT_BOOK, i * SLIDE);
            }
            int at = AT_BOOK + i * SLIDE;
            row[at] = thisMinute();
            row[at + 1] = snow();
            row[at + 2] = rocked;
            row[AT_SLIDES] = i + 1;
        }
    }

    /** What lay ahead of each of the latest STEPS, in a ring. */
    private static final class Steps {
        final int[][] rows = new int[MOST_STEPS][Terrace.ROW];
        int first = 0;
        int count = 0;

        void save(Terrace terrace) {
            int at = (first + count) % MOST_STEPS;
            System.arraycopy(terrace.row, 0, rows[at], 0, Terrace.ROW);
            if (count < MOST_STEPS) {
                count++;
            } else {
                first = (first + 1) % MOST_STEPS;
            }
        }

        int takeBack(Terrace terrace) {
            if (count <= 0) {
                return NONE;
            }
            count--;
            int[] before = rows[(first + count) % MOST_STEPS];
            int[] after = terrace.row;
            // What was told since that STEP isn't taken back, and nothing but later STEPS, taken back already, changed it.
            for (int h = before[Terrace.AT_HORSES]; h < terrace.horses(); h++) {
                before[Terrace.AT_SHIFT + h] = after[Terrace.AT_SHIFT + h];
            }
            before[Terrace.AT_HORSES] = terrace.horses();
            before[Terrace.AT_BOYS] = terrace.boys();
            System.arraycopy(before, 0, after, 0, Terrace.ROW);
            return count;
        }

        void copyFrom(Steps other) {
            for (int i = 0; i < MOST_STEPS; i++) {
                System.arraycopy(other.rows[i], 0, rows[i], 0, Terrace.ROW);
            }
            first = other.first;
            count = other.count;
        }
    }

    /** A short list of things told, of up to three numbers each. */
    private static final class Told {
        final int[] firsts = new int[MOST_TOLD];
        final int[] seconds = new int[MOST_TOLD];
        final int[] thirds = new int[MOST_TOLD];
        final int most;
        int count = 0;

        Told(int most) {
            this.most = Math.min(most, MOST_TOLD);
        }

        int add(int first, int second, int third) {
            if (count >= most) {
                return WRONG;
            }
            firsts[count] = first;
            seconds[count] = second;
            thirds[count] = third;
            count++;
            return count;
        }

        int forget() {
            count = 0;
            return count;
        }

        int firstOf(int i) {
            return i >= 0 && i < count ? firsts[i] : 0;
        }

        int secondOf(int i) {
            return i >= 0 && i < count ? seconds[i] : 0;
        }

        int thirdOf(int i) {
            return i >= 0 && i < count ? thirds[i] : 0;
        }

        void copyFrom(Told other) {
            System.arraycopy(other.firsts, 0, firsts, 0, MOST_TOLD);
            System.arraycopy(other.seconds, 0, seconds, 0, MOST_TOLD);
            System.arraycopy(other.thirds, 0, thirds, 0, MOST_TOLD);
            count = other.count;
        }
    }

    /** A TEXT as it was read: its CLAUSES, and its laws as code for a machine with a stack. */
    private static final class Script {
        // No TOKEN makes more than one order, and no TOKEN is shorter than a byte.
        final int[] orders = new int[MOST_BYTES];
        final int[] operands = new int[MOST_BYTES];
        int length = 0;
        final int[] starts = new int[LAWS];
        final int[] ends = new int[LAWS];
        final int[] kinds = new int[MOST_CLAUSES];
        final int[] firsts = new int[MOST_CLAUSES];
        final int[] seconds = new int[MOST_CLAUSES];
        int clauses = 0;

        void wipe() {
            length = 0;
            clauses = 0;
            Arrays.fill(starts, NONE);
            Arrays.fill(ends, NONE);
        }

        boolean has(int law) {
            return law >= 0 && law < LAWS && starts[law] != NONE;
        }

        void addClause(int kind, int first, int second) {
            if (clauses < MOST_CLAUSES) {
                kinds[clauses] = kind;
                firsts[clauses] = first;
                seconds[clauses] = second;
                clauses++;
            }
        }

        void beginLaw(int law) {
            if (law >= 0 && law < LAWS) {
                starts[law] = length;
                ends[law] = length;
            }
        }

        void endLaw(int law) {
            if (law >= 0 && law < LAWS) {
                ends[law] = length;
            }
        }

        /** Writes an order down: where it stands. */
        int addOrder(int order, int operand) {
            int at = length;
            if (at < MOST_BYTES) {
                orders[at] = order;
                operands[at] = operand;
                length++;
            }
            return at;
        }

        void leadHere(int jump) {
            if (jump >= 0 && jump < length) {
                operands[jump] = length;
            }
        }

        int kindOf(int i) {
            return i >= 0 && i < clauses ? kinds[i] : NONE;
        }

        int firstOf(int i) {
            return i >= 0 && i < clauses ? firsts[i] : NONE;
        }

        int secondOf(int i) {
            return i >= 0 && i < clauses ? seconds[i] : NONE;
        }
    }

    /** The tape, and the reading of it into a TEXT up to its first FAULT. */
    private static final class Reader {
        final int[] tape = new int[MOST_BYTES];
        int bytes = 0;
        // One more than there can be bytes: the end is a TOKEN too.
        final int[] kinds = new int[MOST_BYTES + 1];
        final int[] places = new int[MOST_BYTES + 1];
        final int[] values = new int[MOST_BYTES + 1];
        int tokens = 0;
        int at = 0;
        int law = NONE;
        Script draft = new Script();
        boolean hasRead = false;
        int fault = 0;
        int place = NONE;

        int takeBytes(int a, int b, int c, int d, int e) {
            if (bytes + 20 > MOST_BYTES) {
                return NONE;
            }
            takeFour(a);
            takeFour(b);
            takeFour(c);
            takeFour(d);
            takeFour(e);
            return bytes;
        }

        private void takeFour(int word) {
            for (int shift = 24; shift >= 0 && bytes < MOST_BYTES; shift -= 8) {
                tape[bytes] = word >>> shift & 255;
                bytes++;
            }
        }

        int cutTo(int n) {
            if (n < 0 || n > bytes) {
                return NONE;
            }
            bytes = n;
            return n;
        }

        void readTape() {
            draft.wipe();
            hasRead = true;
            fault = 0;
            place = NONE;
            at = 0;
            splitTape();
            bytes = 0;
            // The clause behind the last that may stand is a fault, so the count alone ends this.
            for (int i = 0; i <= MOST_CLAUSES && fault == 0 && kind() != FINISH; i++) {
                readClause();
            }
        }

        private void splitTape() {
            tokens = 0;
            for (int i = 0; i < bytes; i++) {
                int c = byteAt(i);
                if (c != 32 && c != 10) {
                    int end = endOfToken(i);
                    addToken(kindOf(i, end), i, valueOf(i, end));
                    i = Math.max(i, end - 1);
                }
            }
            addToken(FINISH, bytes, 0);
        }

        private void addToken(int kind, int from, int value) {
            if (tokens <= MOST_BYTES) {
                kinds[tokens] = kind;
                places[tokens] = from;
                values[tokens] = value;
                tokens++;
            }
        }

        private int byteAt(int i) {
            return i >= 0 && i < bytes ? tape[i] : NONE;
        }

        private static boolean isLetter(int c) {
            return isWithin(c, 'a', 'z') || isWithin(c, 'A', 'Z');
        }

        private static boolean isDigit(int c) {
            return isWithin(c, '0', '9');
        }

        private int endOfToken(int from) {
            int c = byteAt(from);
            int end = from + 1;
            if (isLetter(c) || isDigit(c)) {
                while (end < bytes && (isLetter(c) ? isLetter(byteAt(end)) : isDigit(byteAt(end)))) {
                    end++;
                }
            } else if ((c == '<' || c == '>') && byteAt(end) == '=') {
                end++;
            }
            return end;
        }

        private int kindOf(int from, int end) {
            int c = byteAt(from);
            if (isLetter(c)) {
                return wordAt(from, end);
            }
            if (isDigit(c)) {
                return NUMBER;
            }
            boolean two = end - from == 2;
            switch (c) {
                case '<': return two ? LESS_OR_LIKE : LESS;
                case '>': return two ? MORE_OR_LIKE : MORE;
                case '=': return LIKE;
                case '#': return UNLIKE;
                case '+': return PLUS;
                case '-': return MINUS;
                case '*': return TIMES;
                case '/': return OVER;
                case '(': return OPEN;
                case ')': return CLOSE;
                case ';': return STOP;
                default: return STRANGE;
            }
        }

        private int wordAt(int from, int end) {
            int word = 0;
            int read = 0;
            boolean same = true;
            for (int i = 0; i < WORDS.length(); i++) {
                char c = WORDS.charAt(i);
                if (c != ' ') {
                    same = same && from + read < end && byteAt(from + read) == c;
                    read++;
                } else if (same && from + read == end) {
                    return word;
                } else {
                    word++;
                    read = 0;
                    same = true;
                }
            }
            return STRANGE;
        }

        private int valueOf(int from, int end) {
            int value = 0;
            for (int i = from; i < end; i++) {
                value = Math.min(HIGHEST_NUMBER + 1, value * 10 + Math.max(0, byteAt(i) - '0'));
            }
            return value;
        }

        private int kind() {
            return at >= 0 && at < tokens ? kinds[at] : FINISH;
        }

        private int value() {
            return at >= 0 && at < tokens ? values[at] : 0;
        }

        private void refuse(int why) {
            if (fault == 0) {
                fault = why;
                place = at >= 0 && at < tokens ? places[at] : 0;
            }
        }

        private void expect(int kind) {
            if (kind() != kind) {
                refuse(1);
            } else if (fault == 0) {
                at++;
            }
        }

        private int readNumber(int least, int most) {
            int number = value();
            if (kind() != NUMBER) {
                refuse(1);
            } else if (number < least || number > most) {
                refuse(2);
            } else if (fault == 0) {
                at++;
            }
            return number;
        }

        private void readClause() {
            int kind = kind();
            if (!isWithin(kind, WEARS, MINUTE)) {
                refuse(1);
            } else if (draft.has(kind)) {
                refuse(4);
            } else if (draft.clauses >= MOST_CLAUSES) {
                refuse(6);
            } else {
                at++;
                if (kind < LAWS) {
                    readLaw(kind);
                } else {
                    readOrder(kind);
                }
                expect(STOP);
            }
        }

        private void readLaw(int kind) {
            law = kind;
            draft.addClause(kind, 0, 0);
            draft.beginLaw(kind);
            readSum(0);
            draft.endLaw(kind);
        }

        private void readOrder(int kind) {
            int i = kind - HORSE;
            if (i < 0 || i >= BETWEEN.length) {
                return;
            }
            int first = readNumber(FIRST_LEAST[i], FIRST_MOST[i]);
            int second = 0;
            if (BETWEEN[i] != NONE) {
                expect(BETWEEN[i]);
                second = readNumber(0, kind == HORSE ? first - 1 : SECOND_MOST[i]);
            }
            draft.addClause(kind, first, second);
        }

        /** Goes past a TOKEN that opens, unless too many are open already. */
        private void open(int depth) {
            if (depth >= MOST_OPEN) {
                refuse(3);
            } else if (fault == 0) {
                at++;
            }
        }

        private void readSum(int depth) {
            readProduct(depth);
            for (int i = 0; i < MOST_BYTES && fault == 0 && (kind() == PLUS || kind() == MINUS); i++) {
                int order = kind();
                at++;
                readProduct(depth);
                draft.addOrder(order, 0);
            }
        }

        private void readProduct(int depth) {
            readOne(depth);
            for (int i = 0; i < MOST_BYTES && fault == 0 && (kind() == TIMES || kind() == OVER); i++) {
                int order = kind();
                at++;
                readOne(depth);
                draft.addOrder(order, 0);
            }
        }

        private void readOne(int depth) {
            if (fault != 0) {
                return;
            }
            int kind = kind();
            if (kind == NUMBER) {
                draft.addOrder(NUMBER, readNumber(0, HIGHEST_NUMBER));
            } else if (kind == OPEN) {
                open(depth);
                readInside(depth + 1);
                expect(CLOSE);
            } else if (kind == MINUS || kind == SIGN || kind == BEAT) {
                open(depth);
                readOneInside(depth + 1);
                draft.addOrder(kind == MINUS ? NEGATE : kind, 0);
            } else if (kind == IF) {
                open(depth);
                readChoice(depth + 1);
            } else {
                readName(nameOf(kind));
            }
        }

        private void readInside(int depth) {
            if (fault == 0 && depth <= MOST_OPEN) {
                readSum(depth);
            }
        }

        private void readOneInside(int depth) {
            if (fault == 0 && depth <= MOST_OPEN) {
                readOne(depth);
            }
        }

        private void readName(int name) {
            if (name == NONE) {
                refuse(1);
            } else if (!isWithin(law, 0, LAWS - 1) || name > LAST_NAME[law]) {
                refuse(5);
            } else {
                draft.addOrder(NAME, name);
                at++;
            }
        }

        private static int nameOf(int kind) {
            switch (kind) {
                case MINUTE: return 0;
                case SNOW: return 1;
                case ROCKING: return 2;
                case HORSE: return 3;
                case WEAR: return 4;
                case RIDER: return 5;
                case SIZE: return 6;
                case TIRED: return 7;
                case WHO: return 8;
                default: return NONE;
            }
        }

        private void readChoice(int depth) {
            readEither(depth);
            expect(THEN);
            int past = draft.addOrder(UNLESS, 0);
            readInside(depth);
            expect(ELSE);
            int out = draft.addOrder(JUMP, 0);
            draft.leadHere(past);
            readInside(depth);
            expect(END);
            draft.leadHere(out);
        }

        private void readEither(int depth) {
            readBoth(depth);
            for (int i = 0; i < MOST_BYTES && fault == 0 && kind() == OR; i++) {
                at++;
                readBoth(depth);
                draft.addOrder(OR, 0);
            }
        }

        private void readBoth(int depth) {
            readAsk(depth);
            for (int i = 0; i < MOST_BYTES && fault == 0 && kind() == AND; i++) {
                at++;
                readAsk(depth);
                draft.addOrder(AND, 0);
            }
        }

        private void readAsk(int depth) {
            if (fault != 0 || depth > MOST_OPEN) {
                return;
            }
            if (kind() == NOT) {
                open(depth);
                readAsk(depth + 1);
                draft.addOrder(NOT, 0);
                return;
            }
            readSum(depth);
            int order = kind();
            if (order != MEETS && !isWithin(order, LESS, UNLIKE)) {
                refuse(1);
            } else if (fault == 0) {
                at++;
                readSum(depth);
                draft.addOrder(order, 0);
            }
        }
    }

    /** Asks the laws of a TEXT, or of none. */
    private static final class Judge {
        final int[] stack = new int[DEEPEST];
        final int[] names = new int[NAMES];

        int wears(Script by, Terrace terrace, int horse, int rocking) {
            if (by == null || !by.has(WEARS)) {
                return 1;
            }
            tellNames(terrace, horse, rocking);
            return clamp(ask(by, WEARS, terrace), 0, 9);
        }

        int tires(Script by, Terrace terrace, int boy, int rocked) {
            int horse = terrace.seatOf(boy);
            if (horse == NONE) {
                return 0;
            }
            if (by == null || !by.has(TIRES)) {
                return rocked >> horse & 1;
            }
            tellNames(terrace, horse, Integer.bitCount(rocked));
            return clamp(ask(by, TIRES, terrace), 0, 9);
        }

        int seen(Script by, Terrace terrace, int rocking) {
            if (by == null || !by.has(SEEN)) {
                return 8 * rocking;
            }
            tellNames(terrace, NONE, rocking);
            return clamp(ask(by, SEEN, terrace), 0, MOST_SEEN);
        }

        private void tellNames(Terrace terrace, int horse, int rocking) {
            int rider = terrace.riderOf(horse);
            names[0] = terrace.thisMinute();
            names[1] = terrace.snow();
            names[2] = rocking;
            names[3] = horse;
            names[4] = terrace.wearOf(horse);
            names[5] = rider;
            names[6] = terrace.sizeOf(rider);
            names[7] = terrace.tiredOf(rider);
            names[8] = rider;
        }

        private int ask(Script by, int law, Terrace terrace) {
            int top = 0;
            int end = by.ends[law];
            for (int at = by.starts[law]; at >= 0 && at < end && at < MOST_BYTES; at++) {
                int order = by.orders[at];
                int operand = by.operands[at];
                if (order == NUMBER || order == NAME) {
                    if (top < DEEPEST) {
                        stack[top] = order == NUMBER ? operand : nameAt(operand);
                        top++;
                    }
                } else if (order == JUMP) {
                    at = Math.max(at, operand - 1);
                } else if (order == UNLESS) {
                    top = Math.max(0, top - 1);
                    at = stack[top] != 0 ? at : Math.max(at, operand - 1);
                } else if (order == NEGATE || order == SIGN || order == BEAT || order == NOT) {
                    int last = Math.max(0, top - 1);
                    stack[last] = changed(order, stack[last], terrace);
                } else if (top >= 2) {
                    top--;
                    int a = stack[top - 1];
                    stack[top - 1] = order >= PLUS ? reckoned(order, a, stack[top]) : isSo(order, a, stack[top]) ? 1 : 0;
                }
            }
            return stack[0];
        }

        private int nameAt(int name) {
            return name >= 0 && name < NAMES ? names[name] : 0;
        }

        private static int changed(int order, int a, Terrace terrace) {
            switch (order) {
                case NEGATE: return -a;
                case SIGN: return a > 0 ? 1 : a < 0 ? -1 : 0;
                case BEAT: return terrace.beatOf(a);
                default: return a == 0 ? 1 : 0;
            }
        }

        private static int reckoned(int order, int a, int b) {
            switch (order) {
                case PLUS: return clamp((long) a + b, -HIGHEST_VALUE, HIGHEST_VALUE);
                case MINUS: return clamp((long) a - b, -HIGHEST_VALUE, HIGHEST_VALUE);
                case TIMES: return clamp((long) a * b, -HIGHEST_VALUE, HIGHEST_VALUE);
                default: return b == 0 ? 0 : a / b;
            }
        }

        private static boolean isSo(int order, int a, int b) {
            switch (order) {
                case OR: return (a | b) != 0;
                case AND: return (a & b) != 0;
                case MEETS: return Odds.divisor(a, b) != 1;
                case LESS: return a < b;
                case LESS_OR_LIKE: return a <= b;
                case MORE: return a > b;
                case MORE_OR_LIKE: return a >= b;
                case LIKE: return a == b;
                default: return a != b;
            }
        }

        private static int clamp(long n, int least, int most) {
            return (int) Math.max(least, Math.min(most, n));
        }
    }

    /** Sets of HORSES by what is heard of them. */
    private static final class Ears {
        final int[] due = new int[MOST_SAFE];
        final int[] sets = new int[1 << MOST_HORSES];
        int found = 0;

        /** Keeps the HORSES that are due in each of n MINUTES from this one on. */
        void markDue(Terrace terrace, int n) {
            for (int i = 0; i < n && i < MOST_SAFE; i++) {
                due[i] = terrace.dueAt(terrace.thisMinute() + i);
            }
        }

        boolean staysBelow(int set, int n, int k) {
            for (int i = 0; i < n && i < MOST_SAFE; i++) {
                if (Integer.bitCount(set & due[i]) >= k) {
                    return false;
                }
            }
            return true;
        }

        /** Finds the sets by which all HEARD is so. */
        void findSets(Terrace terrace, Told heard) {
            for (int i = 0; i < heard.count && i < MOST_SAFE; i++) {
                due[i] = terrace.dueAt(heard.firstOf(i));
            }
            found = 0;
            int all = Math.min(sets.length, 1 << terrace.horses());
            for (int set = 0; set < all; set++) {
                if (agrees(set, heard)) {
                    sets[found] = set;
                    found++;
                }
            }
        }

        private boolean agrees(int set, Told heard) {
            for (int i = 0; i < heard.count && i < MOST_SAFE; i++) {
                if (Integer.bitCount(set & due[i]) != heard.secondOf(i)) {
                    return false;
                }
            }
            return true;
        }

        int sure() {
            int all = found > 0 ? sets[0] : 0;
            for (int i = 0; i < found; i++) {
                all &= sets[i];
            }
            return all;
        }

        int never(Terrace terrace) {
            int none = found > 0 ? (1 << terrace.horses()) - 1 : 0;
            for (int i = 0; i < found; i++) {
                none &= ~sets[i];
            }
            return none;
        }

        /** How many unlike counts the sets that were found make, i MINUTES from now. */
        int unlikeCounts(int i) {
            int counts = 0;
            for (int s = 0; s < found && i >= 0 && i < MOST_SAFE; s++) {
                counts |= 1 << Integer.bitCount(sets[s] & due[i]);
            }
            return Integer.bitCount(counts);
        }
    }

    /** Who has which watch. */
    private static final class Roster {
        static final int TAKEN = 1 << MOST_BOYS;

        // The most that the watches from one on can have, by the boys taken ahead of it.
        final int[] most = new int[(MOST_WATCHES + 1) * TAKEN];
        final int[] boyOf = new int[MOST_WATCHES];

        int assign(Told watches, Terrace terrace) {
            int last = Math.min(watches.count, MOST_WATCHES);
            Arrays.fill(most, 0);
            for (int i = last - 1; i >= 0; i--) {
                for (int taken = 0; taken < TAKEN; taken++) {
                    most[i * TAKEN + taken] = mostFrom(i, taken, watches, terrace);
                }
            }
            int taken = 0;
            for (int i = 0; i < last; i++) {
                boyOf[i] = lowestFor(i, taken, watches, terrace);
                taken |= boyOf[i] == NONE ? 0 : 1 << boyOf[i];
            }
            return most[0];
        }

        int boyOf(int i) {
            return i >= 0 && i < MOST_WATCHES ? boyOf[i] : NONE;
        }

        private int mostFrom(int i, int taken, Told watches, Terrace terrace) {
            int best = most[(i + 1) * TAKEN + taken];
            for (int b = 0; b < MOST_BOYS; b++) {
                if (suits(i, b, taken, watches, terrace)) {
                    best = Math.max(best, 1 + most[(i + 1) * TAKEN + (taken | 1 << b)]);
                }
            }
            return best;
        }

        private int lowestFor(int i, int taken, Told watches, Terrace terrace) {
            int best = most[i * TAKEN + taken];
            for (int b = 0; b < MOST_BOYS; b++) {
                if (suits(i, b, taken, watches, terrace) && 1 + most[(i + 1) * TAKEN + (taken | 1 << b)] == best) {
                    return b;
                }
            }
            return NONE;
        }

        private static boolean suits(int i, int b, int taken, Told watches, Terrace terrace) {
            return terrace.isBoy(b) && (taken >> b & 1) == 0
                    && isWithin(terrace.sizeOf(b), watches.secondOf(i), watches.thirdOf(i));
        }
    }

    /** Whole numbers for odds. */
    private static final class Odds {
        static long power(int base, int times) {
            long all = 1;
            for (int i = 0; i < times; i++) {
                all *= base;
            }
            return all;
        }

        static long choose(int n, int k) {
            if (k > n) {
                return 0;
            }
            long all = 1;
            for (int i = 1; i <= k; i++) {
                all = all * (n - k + i) / i;
            }
            return all;
        }

        /** How likely it is to see just k of so many real ones, as a part of 10 to the power of MOST_REAL. */
        static long weight(int r, int k, int real) {
            if (k > real) {
                return 0;
            }
            return choose(real, k) * power(r, k) * power(10 - r, real - k) * power(10, MOST_REAL - real);
        }

        static long lowestTerm(long upper, long lower, boolean low) {
            long common = divisor(upper, lower);
            if (common == 0) {
                return NONE;
            }
            return (low ? lower : upper) / common;
        }

        /** The greatest number that divides both; 0 of 0 and 0. */
        static long divisor(long a, long b) {
            long large = Math.abs(a);
            long small = Math.abs(b);
            // Each two rounds halve the larger one, so these are more than a long can need.
            for (int i = 0; i < 200 && small != 0; i++) {
                long rest = large % small;
                large = small;
                small = rest;
            }
            return large;
        }
    }
}
