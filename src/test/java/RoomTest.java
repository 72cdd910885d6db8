import java.lang.management.ManagementFactory;

/** What a run makes: an object is small, and no call makes anything more. */
public final class RoomTest {
    private static final com.sun.management.ThreadMXBean COUNTER = (com.sun.management.ThreadMXBean) ManagementFactory.getThreadMXBean();

    public static void main(String[] args) {
        allCalls(new RockingGuard());
        long ahead = made();
        RockingGuard g = new RockingGuard();
        long whole = made() - ahead;
        Due.is("an object has 20000 numbers at most", whole < 4 * 20000, true);
        for (int i = 0; i < 6; i++) allCalls(g);
        ahead = made();
        for (int i = 0; i < 6; i++) allCalls(g);
        // The counting itself makes a little.
        Due.is("calls make nothing", made() - ahead < 2000, true);
        Due.close();
    }

    private static long made() {
        return COUNTER.getThreadAllocatedBytes(Thread.currentThread().getId());
    }

    private static void allCalls(RockingGuard g) {
        g.image();
        for (int i = 0; i < 9; i++) {
            g.horse(9, i);
            g.boy(i + 1);
            g.mount(i, i);
            g.heard(i, 1);
            g.watch(i, 1, 9);
            g.haul(i * 10);
            g.counted(i, i * 8);
        }
        // "seen if 1<2 then 3 else 4 end; "
        g.end(0);
        g.feed(0x7365656e, 0x20696620, 0x313c3220, 0x7468656e, 0x20332065);
        g.feed(0x6c736520, 0x3420656e, 0x643b2020, 0x20202020, 0x20202020);
        g.text();
        g.by(0);
        g.played(0);
        g.minute(60);
        g.winters(7, 40);
        g.oil(0);
        g.nail(0, 4);
        g.off(0);
        g.undo();
        for (int what = 0; what < 10; what++) {
            g.about(what);
            g.is(what);
            g.ofHorse(what, what);
            g.ofBoy(what, what);
            g.book(what, 1);
            g.slid(what);
            g.manned(what);
            g.rode(what);
            g.fault(what);
            g.below(5, what, 9, true);
            g.gale(255, 3, what, false);
            g.ropes(what);
            g.show(what * 8);
            g.veterans(what);
            g.foretold(60, what, what);
        }
        g.rocking(9);
        g.together(255);
        g.firstSlide();
        g.unmanned();
        g.safe(99, 2);
        g.listen(60);
        g.oilings(50, true);
        g.whose();
        g.inStep();
        g.tiredest();
        g.lonely();
        g.limit(2);
        g.back();
    }
}
