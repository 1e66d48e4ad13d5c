import java.lang.management.ManagementFactory;

/** All calls of a run live in one room: an object is small, and calls make nothing that stays there. */
public final class RoomTest {
    private static final com.sun.management.ThreadMXBean THREADS =
            (com.sun.management.ThreadMXBean) ManagementFactory.getThreadMXBean();

    public static void main(String[] args) {
        SampleDesk warm = new SampleDesk();
        useAll(warm);
        taken();
        long before = taken();
        SampleDesk x = new SampleDesk();
        long made = taken() - before;
        Check.holds("a new object takes " + made + " bytes", made < 40000);
        before = taken();
        useAll(x);
        long used = taken() - before;
        Check.holds("calls that throw nothing take " + used + " bytes", used < 2000);
        dearest();
        Check.end();
    }

    private static long taken() {
        return THREADS.getThreadAllocatedBytes(Thread.currentThread().getId());
    }

    private static void useAll(SampleDesk x) {
        for (int i = 0; i < 128; i++) {
            x.feed(0x5a5a1234 + i, 0x7654321 * i, ~i, 0x13579bdf ^ i);
        }
        for (int i = 0; i < 64; i++) {
            x.weight(2, i, i + 1);
        }
        for (int method = 0; method <= 1; method++) {
            x.build(2, method);
            x.draw(0, 2, 0, 0);
            x.undecided(0, 2, 0, 0, 12);
        }
        x.alias(2, 5, 1);
        int[][] orders = {
            {1, 77, 3, 0}, {2, 1, 3, 0}, {3, 100, 1, 3}, {4, 1, 50, 1000}, {5, 30, 1, 0}, {6, 50, 50, 50},
            {7, 100, 3, 0}, {8, 3, 2, 0}, {9, 256, 0, 0}, {10, 256, 99, 0}, {11, 128, 0, 0}, {12, 128, 0, 0},
            {13, 256, 4, 0},
        };
        for (int[] o : orders) {
            x.draw(o[0], o[1], o[2], o[3]);
            x.replay(x.count(3) - 1);
            x.journal(0, 6);
            if (o[0] <= 8) {
                x.decided(o[0], o[1], o[2], o[3], 12, 1);
                x.undecided(o[0], o[1], o[2], o[3], 12);
            }
        }
        x.item(3);
        x.bit(4, 1);
        x.rewind(0);
    }

    /** The dearest calls, as often as one object may be called: this ends soon, or the test's patience does. */
    private static void dearest() {
        SampleDesk x = new SampleDesk();
        for (int i = 0; i < 128; i++) {
            x.feed(-1, -1, -1, -1);
        }
        for (int i = 0; i < 63; i++) {
            x.weight(0, i, 1);
        }
        x.build(0, 0);
        for (int i = 0; i < 60; i++) {
            Check.same("a table that the tape never decides", Check.outcome(() -> x.draw(0, 0, 0, 0)),
                    "throws.NoSuchElementException");
            Check.due("a sure row of coins", x.draw(6, 100000, 0, 100000), 100000);
            Check.due("coins that are never 1", x.draw(4, 0, 9, 100000), 100000);
            Check.holds("strings of a bell", x.undecided(7, 1000, 1, 0, 12) > 0);
            Check.holds("strings of a Poisson law", x.undecided(5, 64, 1, 0, 12) == 4096);
        }
    }
}
