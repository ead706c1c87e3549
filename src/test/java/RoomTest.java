import java.lang.management.ManagementFactory;

/** What a run makes: the rows of the constructor, and nothing by any call. */
public final class RoomTest {
    private static final Due DUE = new Due();
    private static final com.sun.management.ThreadMXBean THREADS =
        (com.sun.management.ThreadMXBean) ManagementFactory.getThreadMXBean();

    public static void main(String[] args) {
        // the first round loads what the machine itself needs
        useAll(new SecondTry(), 2);
        long before = THREADS.getCurrentThreadAllocatedBytes();
        SecondTry x = new SecondTry();
        long made = THREADS.getCurrentThreadAllocatedBytes() - before;
        DUE.is("a new object takes " + made + " bytes, 70,000 at most", made <= 70000, true);
        before = THREADS.getCurrentThreadAllocatedBytes();
        useAll(x, 10);
        made = THREADS.getCurrentThreadAllocatedBytes() - before;
        DUE.is("its calls take " + made + " bytes, next to none", made <= 1000, true);
        DUE.end("RoomTest");
    }

    /** Every call of the face, the dearest ones too; it makes nothing itself. */
    private static void useAll(SecondTry x, int rounds) {
        for (int k = 0; k < 12; k++) {
            x.kind(k, 1, 17 * k & 255, 0);
        }
        for (int p = 0; p < 8; p++) {
            x.person(p, 1000);
        }
        for (int i = 0; i < rounds; i++) {
            // v9-n(d<9);a(m>0);c3(1=1)
            x.feed(0x76392d6e, 0x28643c39, 0x293b6128, 0x6d3e3029, 0x3b633328);
            x.feed(0x313d3129, 0, 0, 0, 0);
            DUE.is("law", x.law(24), 3);
            // ((0,1)4)5
            x.feed(0x2828302c, 0x31293429, 0x35000000, 0, 0);
            DUE.is("plan", x.plan(i % 8, 9), 40);
            x.tries(0, 1, 2);
            x.buys(1, 1, 0);
            x.cost(1, 1, 0);
            x.tried(60, 0);
            x.days(1);
            x.has(0, 0, 5);
            x.alike(1, 3);
            x.soonest(0, 15, 3, 3, 0);
            x.cheapest(2, 15, 3, 200, 0);
            x.loophole(2, 4, 0);
            x.feed(0x00010203, 0x04050607, 0, 0, 0);
            x.jobs(8, 7, 10);
            x.rivals(5, 5, 0);
            x.feed(0x00010203, 0x00010000, 0, 0, 0);
            x.histories(4, 3, 2, 2);
            x.game(7, 7, 7, false, false, 1);
            x.court(9, 300, 200, 100, 2, 0);
            x.keep();
            x.undo();
            x.feed(0, 0, 0, 0, 0);
            x.check(0, 5);
            x.count(90);
        }
    }
}
