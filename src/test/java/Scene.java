/** Terraces that many tests begin with. */
final class Scene {
    static final int LEAST = Integer.MIN_VALUE;
    static final int MOST = Integer.MAX_VALUE;

    private Scene() {
    }

    /** Horses of these BEATS, SHIFT 0. */
    static RockingGuard horses(int... beats) {
        RockingGuard g = new RockingGuard();
        for (int beat : beats) g.horse(beat, 0);
        return g;
    }

    /** Horses of these BEATS, SHIFT 0, each with a boy of SIZE 5 on it (6 at most); no slide comes, since LIMIT is 8. */
    static RockingGuard ridden(int... beats) {
        RockingGuard g = horses(beats);
        g.limit(8);
        for (int i = 0; i < beats.length; i++) {
            g.boy(5);
            g.mount(i, i);
        }
        return g;
    }

    /** So many MINUTES pass. */
    static void pass(RockingGuard g, int minutes) {
        int left = minutes;
        for (; left > 60; left -= 60) g.minute(60);
        if (left > 0) g.minute(left);
    }

    /** One horse of BEAT 1 and a boy on it; its WEAR is this behind 11 MINUTES, he isn't TIRED, no text rules. */
    static RockingGuard worn(int wear) {
        RockingGuard g = ridden(1);
        Due.rule(g, "wears " + wear + "-wear;tires 0;");
        g.minute(11);
        g.by(RockingGuard.NONE);
        return g;
    }

    /** One horse of BEAT 1 and a boy on it (off at 9) who is so TIRED behind one MINUTE; no text rules. */
    static RockingGuard tired(int tired) {
        RockingGuard g = ridden(1);
        Due.rule(g, "wears 0;tires " + tired + ";");
        g.minute(1);
        g.by(RockingGuard.NONE);
        return g;
    }

    /** What seen says by this SUM on a terrace of two horses, of BEATS 4 and 7. */
    static int seen(String sum) {
        RockingGuard g = horses(4, 7);
        Due.rule(g, "seen " + sum + ";");
        return g.is(5);
    }

    static boolean holds(String ask) {
        return seen("if " + ask + " then 1 else 0 end") == 1;
    }
}
