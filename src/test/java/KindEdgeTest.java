/** The kinds of draws and the numbers they take: of each number the least and the greatest, and those just beyond. */
public final class KindEdgeTest {
    private static final int LEAST = Integer.MIN_VALUE;
    private static final int MOST = Integer.MAX_VALUE;

    public static void main(String[] args) {
        kinds();
        answers();
        tables();
        tableHasToBeBuilt();
        uniform();
        uniformAtLeastOne();
        coin();
        binomial();
        geometric();
        poisson();
        hyper();
        bell();
        exponentialCoin();
        shuffle();
        subset();
        pathAndTree();
        stratum();
        belowZero();
        upToOne();
        denominators();
        notLookedAt();
        Check.end();
    }

    /** A desk with no tape, all tables built: an order that may be answers at once, or finds that the tape ends. */
    private static SampleDesk desk() {
        SampleDesk x = new SampleDesk();
        for (int table = 0; table < 8; table++) {
            Desks.weigh(x, table, 1, 1);
            x.build(table, table % 2);
        }
        return x;
    }

    private static void may(int kind, int a, int b, int c) {
        String call = Desks.told(kind, a, b, c);
        SampleDesk x = desk();
        int before = x.count(4);
        String got = Check.outcome(() -> x.draw(kind, a, b, c));
        boolean answered = !got.startsWith("throws");
        Check.holds(call + " of no bits: " + got, answered || got.equals("throws.NoSuchElementException"));
        Check.due(call + ": draws", x.count(4), before + (answered ? 1 : 0));
        if (kind <= 8) {
            Check.same(call + ": undecided of length 0", Check.outcome(() -> x.undecided(kind, a, b, c, 0)),
                    answered ? "0" : "1");
            Check.same(call + ": decided of length 0",
                    Check.outcome(() -> x.decided(kind, a, b, c, 0, answered ? Integer.parseInt(got) : 0)),
                    answered ? "1" : "0");
        }
    }

    private static void mayNot(int kind, int a, int b, int c) {
        String call = Desks.told(kind, a, b, c);
        SampleDesk x = desk();
        Desks.endWith(x, "0110");
        Check.refuses(call, Check.ARGUMENT, () -> x.draw(kind, a, b, c));
        Check.refuses("decided: " + call, Check.ARGUMENT, () -> x.decided(kind, a, b, c, 3, 0));
        Check.refuses("undecided: " + call, Check.ARGUMENT, () -> x.undecided(kind, a, b, c, 3));
    }

    private static void kinds() {
        Check.sentence("IllegalArgumentException, when there is no such kind");
        for (int kind = 0; kind <= 13; kind++) {
            may(kind, 1, 1, 1);
        }
        for (int kind : new int[] {LEAST, -14, -2, -1, 14, 15, 16, 32, 256, MOST}) {
            mayNot(kind, 1, 1, 1);
        }
    }

    private static void answers() {
        Check.sentence("the outcome of kinds 0 to 8; of the others how many items there are.");
        Desks.draws("", 8, 0, 9, 0, 1);
        Desks.draws("", 9, 0, 9, 0, 0);
        Desks.draws("", 9, 1, 9, 0, 1);
        Desks.draws("0", 10, 2, 1, 0, 1);
        Desks.draws("", 10, 256, 0, 0, 0);
        Desks.draws("", 10, 256, 256, 0, 256);
        Desks.draws("", 11, 1, 0, 0, 2);
        Desks.draws("", 12, 1, 0, 0, 1);
        Desks.draws("0", 13, 2, 1, 0, 2);
        SampleDesk zeros = Desks.full(0);
        Check.due("the longest shuffle", zeros.draw(9, 256, 0, 0), 256);
        Check.due("the longest path", zeros.draw(11, 128, 0, 0), 256);
        Check.due("the largest tree", zeros.draw(12, 128, 0, 0), 128);
        Check.due("the largest stratum", zeros.draw(13, 256, 2, 0), 256);
    }

    private static void tables() {
        Check.sentence("0 TABLE a.");
        for (int table = 0; table < 8; table++) {
            may(0, table, 0, 0);
        }
        for (int table : new int[] {LEAST, -1, 8, MOST}) {
            mayNot(0, table, 0, 0);
        }
    }

    private static void tableHasToBeBuilt() {
        Check.sentence("A table has to be built.");
        for (int table = 0; table < 8; table++) {
            int t = table;
            SampleDesk x = new SampleDesk();
            x.feed(0, 0, 0, 0);
            Check.refuses("no weights in " + t, Check.STATE, () -> x.draw(0, t, 0, 0));
            x.weight(t, 9, 4);
            Check.refuses("weights in " + t, Check.STATE, () -> x.draw(0, t, 0, 0));
            Check.refuses("decided", Check.STATE, () -> x.decided(0, t, 0, 0, 3, 0));
            Check.refuses("undecided", Check.STATE, () -> x.undecided(0, t, 0, 0, 3));
            x.build(t, 0);
            Check.due("built", x.draw(0, t, 0, 0), 9);
            Check.refuses("the next one is not", Check.STATE, () -> x.draw(0, (t + 1) % 8, 0, 0));
        }
    }

    private static void uniform() {
        Check.sentence("1 UNIFORM a + 2147483648 * b (b up to 511");
        may(1, 1, 0, 0);
        may(1, MOST, 0, 0);
        may(1, 0, 1, 0);
        may(1, 0, 511, 0);
        may(1, MOST, 511, 0);
        mayNot(1, 0, 512, 0);
        mayNot(1, 1, 512, 0);
        mayNot(1, 1, MOST, 0);
    }

    private static void uniformAtLeastOne() {
        Check.sentence("1 at least)");
        mayNot(1, 0, 0, 0);
        may(1, 1, 0, 0);
        may(1, 0, 1, 0);
        // the sum would be 1 at least, but no number is below 0
        mayNot(1, -1, 1, 0);
        mayNot(1, LEAST, 2, 0);
        mayNot(1, MOST, -1, 0);
    }

    private static void coin() {
        Check.sentence("2 COIN a by b.");
        may(2, 0, 1, 0);
        may(2, 1, 1, 0);
        may(2, 1, 2, 0);
        may(2, MOST, MOST, 0);
        may(2, MOST - 1, MOST, 0);
        mayNot(2, 2, 1, 0);
        mayNot(2, MOST, MOST - 1, 0);
        mayNot(2, -1, 1, 0);
        mayNot(2, 0, 0, 0);
        mayNot(2, 0, -1, 0);
    }

    private static void binomial() {
        Check.sentence("3 BINOMIAL a (up to 1000), b by c.");
        may(3, 0, 1, 2);
        may(3, 1, 1, 2);
        may(3, 999, 1, 2);
        may(3, 1000, 1, 2);
        mayNot(3, 1001, 1, 2);
        mayNot(3, MOST, 1, 2);
        mayNot(3, -1, 1, 2);
        may(3, 5, 0, 1);
        may(3, 5, 1, 1);
        mayNot(3, 5, 2, 1);
        mayNot(3, 5, -1, 1);
        mayNot(3, 5, 0, 0);
        mayNot(3, 0, 0, 0);
        mayNot(3, 0, 2, 1);
    }

    private static void geometric() {
        Check.sentence("4 GEOMETRIC a by b, cap c (up to 100000).");
        may(4, 1, 2, 0);
        may(4, 1, 2, 1);
        may(4, 1, 2, 99999);
        may(4, 1, 2, 100000);
        mayNot(4, 1, 2, 100001);
        mayNot(4, 1, 2, MOST);
        mayNot(4, 1, 2, -1);
        mayNot(4, 1, 2, LEAST);
        may(4, 0, 1, 5);
        may(4, 1, 1, 5);
        mayNot(4, 2, 1, 5);
        mayNot(4, -1, 1, 5);
        mayNot(4, 0, 0, 5);
        mayNot(4, 2, 1, 0);
        mayNot(4, 0, 0, 0);
    }

    private static void poisson() {
        Check.sentence("5 POISSON a by b (up to 64).");
        may(5, 0, 1, 0);
        may(5, 63, 1, 0);
        may(5, 64, 1, 0);
        mayNot(5, 65, 1, 0);
        may(5, 127, 2, 0);
        may(5, 128, 2, 0);
        mayNot(5, 129, 2, 0);
        may(5, MOST, 33554432, 0);
        mayNot(5, MOST, 33554431, 0);
        may(5, 0, MOST, 0);
        may(5, MOST, MOST, 0);
        mayNot(5, MOST, 1, 0);
    }

    private static void hyper() {
        Check.sentence("6 HYPER a, b (up to 100000 each), c (up to a + b).");
        may(6, 100000, 100000, 200000);
        mayNot(6, 100000, 100000, 200001);
        may(6, 100000, 0, 100000);
        may(6, 0, 100000, 100000);
        mayNot(6, 100001, 0, 1);
        mayNot(6, 0, 100001, 1);
        mayNot(6, 100001, 100001, 0);
        may(6, 0, 0, 0);
        mayNot(6, 0, 0, 1);
        may(6, 2, 3, 5);
        mayNot(6, 2, 3, 6);
        mayNot(6, -1, 5, 1);
        mayNot(6, 5, -1, 1);
        mayNot(6, 5, 5, -1);
        // a + b as an int would be below 0
        mayNot(6, MOST, MOST, 0);
        mayNot(6, LEAST, LEAST, 0);
    }

    private static void bell() {
        Check.sentence("7 BELL a by b (1 .. 1000 by 1 .. 10).");
        may(7, 1, 1, 0);
        may(7, 1000, 1, 0);
        may(7, 1, 10, 0);
        may(7, 1000, 10, 0);
        mayNot(7, 0, 1, 0);
        mayNot(7, 0, 10, 0);
        mayNot(7, 1001, 1, 0);
        mayNot(7, 1001, 10, 0);
        mayNot(7, 1, 0, 0);
        mayNot(7, 1, 11, 0);
        mayNot(7, 1000, 11, 0);
        mayNot(7, -1, 1, 0);
        mayNot(7, -1, -1, 0);
        mayNot(7, MOST, 10, 0);
        mayNot(7, 1, MOST, 0);
    }

    private static void exponentialCoin() {
        Check.sentence("8 EXPONENTIAL COIN a by b (up to 1000).");
        may(8, 0, 1, 0);
        may(8, 999, 1, 0);
        may(8, 1000, 1, 0);
        mayNot(8, 1001, 1, 0);
        may(8, 2000, 2, 0);
        mayNot(8, 2001, 2, 0);
        may(8, MOST, 2147484, 0);
        mayNot(8, MOST, 2147483, 0);
        may(8, 2147483000, 2147483, 0);
        mayNot(8, 2147483001, 2147483, 0);
        may(8, 0, MOST, 0);
        may(8, MOST, MOST, 0);
        mayNot(8, MOST, 1, 0);
    }

    private static void shuffle() {
        Check.sentence("9 SHUFFLE a (up to 256).");
        may(9, 0, 0, 0);
        may(9, 1, 0, 0);
        may(9, 255, 0, 0);
        may(9, 256, 0, 0);
        mayNot(9, 257, 0, 0);
        mayNot(9, MOST, 0, 0);
        mayNot(9, -1, 0, 0);
        mayNot(9, LEAST, 0, 0);
    }

    private static void subset() {
        Check.sentence("10 SUBSET a (up to 256), b (up to a).");
        may(10, 0, 0, 0);
        mayNot(10, 0, 1, 0);
        may(10, 256, 0, 0);
        may(10, 256, 255, 0);
        may(10, 256, 256, 0);
        mayNot(10, 256, 257, 0);
        mayNot(10, 257, 0, 0);
        mayNot(10, 257, 257, 0);
        may(10, 5, 5, 0);
        mayNot(10, 5, 6, 0);
        mayNot(10, 5, -1, 0);
        mayNot(10, -1, -1, 0);
        mayNot(10, -1, 0, 0);
    }

    private static void pathAndTree() {
        Check.sentence("11 PATH a, 12 TREE a (up to 128).");
        for (int kind = 11; kind <= 12; kind++) {
            may(kind, 0, 0, 0);
            may(kind, 1, 0, 0);
            may(kind, 127, 0, 0);
            may(kind, 128, 0, 0);
            mayNot(kind, 129, 0, 0);
            mayNot(kind, 256, 0, 0);
            mayNot(kind, MOST, 0, 0);
            mayNot(kind, -1, 0, 0);
            mayNot(kind, LEAST, 0, 0);
        }
    }

    private static void stratum() {
        Check.sentence("13 STRATUM a (up to 256; a multiple of b), arms b (1 at least).");
        may(13, 0, 1, 0);
        may(13, 0, MOST, 0);
        may(13, 256, 1, 0);
        may(13, 256, 256, 0);
        may(13, 255, 5, 0);
        mayNot(13, 257, 1, 0);
        mayNot(13, 257, 257, 0);
        mayNot(13, 258, 2, 0);
        mayNot(13, 7, 2, 0);
        mayNot(13, 128, 256, 0);
        mayNot(13, 4, 0, 0);
        mayNot(13, 0, 0, 0);
        mayNot(13, 4, -2, 0);
        mayNot(13, 0, -1, 0);
        mayNot(13, -2, 2, 0);
        mayNot(13, LEAST, -1, 0);
    }

    private static void belowZero() {
        Check.sentence("No number is below 0");
        int[][] right = {
            {0, 1, 9, 9}, {1, 1, 1, 9}, {2, 1, 2, 9}, {3, 1, 1, 2}, {4, 1, 2, 1}, {5, 1, 2, 9}, {6, 1, 1, 1},
            {7, 1, 1, 9}, {8, 1, 2, 9}, {9, 1, 9, 9}, {10, 1, 1, 9}, {11, 1, 9, 9}, {12, 1, 9, 9}, {13, 1, 1, 9},
        };
        for (int[] r : right) {
            may(r[0], r[1], r[2], r[3]);
            for (int which = 1; which <= 3; which++) {
                // 9 stands for a number that the kind does not look at
                if (r[which] == 9) {
                    continue;
                }
                for (int wrong : new int[] {-1, LEAST}) {
                    int[] w = r.clone();
                    w[which] = wrong;
                    mayNot(w[0], w[1], w[2], w[3]);
                }
            }
        }
    }

    private static void upToOne() {
        Check.sentence("chances are up to 1 (but for 5 and 8)");
        may(2, 7, 7, 0);
        mayNot(2, 8, 7, 0);
        may(3, 3, 7, 7);
        mayNot(3, 3, 8, 7);
        may(4, 7, 7, 3);
        mayNot(4, 8, 7, 3);
        may(5, 8, 7, 0);
        may(8, 8, 7, 0);
    }

    private static void denominators() {
        Check.sentence("and their b or c is 1 at least.");
        for (int den : new int[] {LEAST, -1, 0}) {
            mayNot(2, 0, den, 0);
            mayNot(3, 1, 0, den);
            mayNot(4, 0, den, 3);
            mayNot(5, 0, den, 0);
            mayNot(7, 1, den, 0);
            mayNot(8, 0, den, 0);
            // both below 0: the chance alone would be one
            mayNot(2, den, den, 0);
            mayNot(5, den, den, 0);
            mayNot(8, den, den, 0);
        }
        may(2, 0, 1, 0);
        may(3, 1, 0, 1);
        may(4, 0, 1, 3);
        may(5, 0, 1, 0);
        may(7, 1, 1, 0);
        may(8, 0, 1, 0);
    }

    private static void notLookedAt() {
        Check.sentence("THE KINDS of draws, with numbers a, b, c (others are not looked at)");
        int[][] looked = {
            {0, 1}, {1, 2}, {2, 2}, {5, 2}, {7, 2}, {8, 2}, {9, 1}, {10, 2}, {11, 1}, {12, 1}, {13, 2},
        };
        int[] any = {LEAST, -1, 0, 1, 512, MOST};
        for (int[] k : looked) {
            for (int other : any) {
                SampleDesk x = desk();
                SampleDesk y = desk();
                x.feed(0x12345678, 0x3c5a9f01, 0x77777777, 0x0f0f0f0f);
                y.feed(0x12345678, 0x3c5a9f01, 0x77777777, 0x0f0f0f0f);
                int b = k[1] == 1 ? other : 3;
                String call = Desks.told(k[0], 3, b, other);
                Check.same(call, Check.outcome(() -> x.draw(k[0], 3, b, other)),
                        Check.outcome(() -> y.draw(k[0], 3, k[1] == 1 ? 0 : 3, 0)));
                Check.due(call + ": draws", x.count(4), 1);
                Check.due(call + ": bits", x.count(2), y.count(2));
            }
        }
    }
}
