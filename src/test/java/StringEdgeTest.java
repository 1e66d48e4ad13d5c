/** The edges of counting strings: promises 10 and 11. */
public final class StringEdgeTest {
    private static final int LEAST = Integer.MIN_VALUE;
    private static final int MOST = Integer.MAX_VALUE;

    public static void main(String[] args) {
        lengths();
        lengthNone();
        lengthTwelve();
        beginnings();
        outcomes();
        decideNothing();
        allStrings();
        kindsAboveEight();
        otherLength();
        asForDraw();
        tapeIsNotAsked();
        Check.end();
    }

    private static void lengths() {
        Check.sentence("How many of the strings of a length (0 .. 12) decide a draw of kinds 0 to 8 with an outcome");
        SampleDesk x = new SampleDesk();
        for (int length = 0; length <= 12; length++) {
            Check.due("1 by 2 is 1, length " + length, x.decided(2, 1, 2, 0, length, 1), (1 << length) / 2);
            Check.due("a sure coin, length " + length, x.decided(2, 1, 1, 0, length, 1), 1 << length);
            // a third is 1 by '00', '0100', ..: of each two bits a quarter of what is open
            int thirds = ((1 << (length - length % 2)) - 1) / 3 << length % 2;
            Check.due("1 by 3 is 1, length " + length, x.decided(2, 1, 3, 0, length, 1), thirds);
        }
    }

    private static void lengthNone() {
        Check.sentence("strings of a length (0 .. 12)");
        SampleDesk x = Desks.table(0, 0, 5);
        int[][] sure = {
            {0, 0, 0, 0, 1}, {1, 1, 0, 0, 0}, {2, 0, 1, 0, 0}, {2, 1, 1, 0, 1}, {3, 0, 1, 2, 0}, {4, 1, 2, 0, 0},
            {4, 0, 1, 100000, 100000}, {5, 0, 1, 0, 0}, {6, 3, 0, 2, 2}, {8, 0, 1, 0, 1},
        };
        for (int[] s : sure) {
            String call = Desks.told(s[0], s[1], s[2], s[3]);
            Check.due(call + " without a bit", x.decided(s[0], s[1], s[2], s[3], 0, s[4]), 1);
            Check.due(call + ", another outcome", x.decided(s[0], s[1], s[2], s[3], 0, s[4] + 1), 0);
            Check.due(call + ", open", x.undecided(s[0], s[1], s[2], s[3], 0), 0);
        }
        int[][] unsure = {
            {1, 2, 0, 0}, {2, 1, 2, 0}, {3, 1, 1, 2}, {4, 1, 2, 1}, {5, 1, 2, 0}, {6, 1, 1, 1}, {7, 1, 10, 0},
            {8, 1, 1, 0},
        };
        for (int[] u : unsure) {
            String call = Desks.told(u[0], u[1], u[2], u[3]);
            Check.due(call + " with a bit", x.decided(u[0], u[1], u[2], u[3], 0, 0), 0);
            Check.due(call + ", open", x.undecided(u[0], u[1], u[2], u[3], 0), 1);
        }
    }

    private static void lengthTwelve() {
        Check.sentence("a length (0 .. 12)");
        SampleDesk x = new SampleDesk();
        Check.due("UNIFORM 4096", x.decided(1, 4096, 0, 0, 12, 4095), 1);
        Check.due("UNIFORM 4096, open", x.undecided(1, 4096, 0, 0, 12), 0);
        Check.due("UNIFORM 4097", x.decided(1, 4097, 0, 0, 12, 0), 0);
        Check.due("UNIFORM 4097, open", x.undecided(1, 4097, 0, 0, 12), 4096);
        Check.due("twelve coins", x.decided(3, 12, 1, 2, 12, 6), 924);
        Check.due("thirteen coins", x.decided(3, 13, 1, 2, 12, 6), 0);
        Check.due("the widest UNIFORM", x.decided(1, MOST, 511, 0, 12, -1), 0);
        Check.due("the widest UNIFORM, open", x.undecided(1, MOST, 511, 0, 12), 4096);
    }

    private static void beginnings() {
        Check.sentence("that is, have a beginning (or are such a one) that it reads.");
        SampleDesk x = new SampleDesk();
        // 5 is 0 by '000', '1010', ..: as the string itself, and as a beginning of longer ones
        Check.due("UNIFORM 5 is 0, length 2", x.decided(1, 5, 0, 0, 2, 0), 0);
        Check.due("UNIFORM 5 is 0, length 3", x.decided(1, 5, 0, 0, 3, 0), 1);
        Check.due("UNIFORM 5 is 0, length 4", x.decided(1, 5, 0, 0, 4, 0), 3);
        Check.due("UNIFORM 5 is 0, length 5", x.decided(1, 5, 0, 0, 5, 0), 6);
        // 4 is '100', '1110', and then '1111100'
        Check.due("UNIFORM 5 is 4, length 6", x.decided(1, 5, 0, 0, 6, 4), 12);
        Check.due("UNIFORM 5 is 4, length 7", x.decided(1, 5, 0, 0, 7, 4), 25);
        // heads by '0', tails by '1' as the whole string
        Check.due("GEOMETRIC with cap 3 is 3, length 3", x.decided(4, 1, 2, 3, 3, 3), 1);
        Check.due("GEOMETRIC with cap 3 is 3, length 2", x.decided(4, 1, 2, 3, 2, 3), 0);
        Check.due("GEOMETRIC with cap 3 is 0, length 3", x.decided(4, 1, 2, 3, 3, 0), 4);
    }

    private static void outcomes() {
        Check.sentence("with an outcome");
        SampleDesk x = new SampleDesk();
        for (int outcome : new int[] {LEAST, -1, 3, MOST}) {
            Check.due("UNIFORM 3 is never " + outcome, x.decided(1, 3, 0, 0, 6, outcome), 0);
        }
        for (int outcome = 0; outcome < 3; outcome++) {
            Check.due("UNIFORM 3 is " + outcome, x.decided(1, 3, 0, 0, 6, outcome), 21);
        }
        // a bell of 3: 2 by '001101', minus 2 by '001111', and 0 is never minus
        Check.due("BELL is 2", x.decided(7, 3, 1, 0, 6, 2), 1);
        Check.due("BELL is -2", x.decided(7, 3, 1, 0, 6, -2), 1);
        Check.due("BELL is 1", x.decided(7, 3, 1, 0, 5, 1), 1);
        Check.due("BELL is -1", x.decided(7, 3, 1, 0, 5, -1), 1);
        Check.due("BELL is 0", x.decided(7, 3, 1, 0, 4, 0), 1);
    }

    private static void decideNothing() {
        Check.sentence("How many of the strings of a length decide nothing.");
        SampleDesk x = Desks.table(1, 1, 3);
        for (int length = 0; length <= 12; length++) {
            Check.due("a third, length " + length, x.undecided(2, 1, 3, 0, length), 1);
            Check.due("a half", x.undecided(2, 1, 2, 0, length), length == 0 ? 1 : 0);
            Check.due("a sure coin", x.undecided(2, 1, 1, 0, length), 0);
            Check.due("UNIFORM 4096", x.undecided(1, 4096, 0, 0, length), length < 12 ? 1 << length : 0);
            // aliases: '1' is 1 at once, '0' needs a coin of 2 by 4
            Check.due("a table", x.undecided(0, 0, 0, 0, length), length < 2 ? 1 : 0);
        }
    }

    private static void allStrings() {
        Check.sentence("tells how often each outcome is decided by the strings of a length");
        int[][] orders = {
            {0, 0, 0, 0, 0, 3}, {1, 7, 0, 0, 0, 7}, {2, 2, 5, 0, 0, 2}, {3, 4, 1, 3, 0, 5}, {4, 1, 3, 6, 0, 7},
            {5, 1, 2, 0, 0, 13}, {6, 3, 4, 3, 0, 4}, {7, 1, 2, 0, -13, 13}, {8, 3, 2, 0, 0, 2},
        };
        for (int[] o : orders) {
            SampleDesk x = Desks.table(0, 1, 2, 4);
            for (int length = 0; length <= 12; length++) {
                int all = x.undecided(o[0], o[1], o[2], o[3], length);
                for (int outcome = o[4]; outcome < o[5]; outcome++) {
                    all += x.decided(o[0], o[1], o[2], o[3], length, outcome);
                }
                Check.due(Desks.told(o[0], o[1], o[2], o[3]) + ": all strings of length " + length, all, 1 << length);
            }
        }
    }

    private static void refusedBoth(SampleDesk x, Class<? extends Exception> due, int kind, int a, int b, int c,
            int length) {
        String call = Desks.told(kind, a, b, c) + " of length " + length;
        Check.refuses("decided: " + call, due, () -> x.decided(kind, a, b, c, length, 0));
        Check.refuses("undecided: " + call, due, () -> x.undecided(kind, a, b, c, length));
    }

    private static void kindsAboveEight() {
        Check.sentence("also for kinds above 8");
        SampleDesk x = new SampleDesk();
        Check.due("kind 8", x.decided(8, 0, 1, 1, 0, 1), 1);
        for (int kind : new int[] {9, 10, 11, 12, 13, 14, MOST, -1, LEAST}) {
            refusedBoth(x, Check.ARGUMENT, kind, 0, 1, 1, 3);
            refusedBoth(x, Check.ARGUMENT, kind, 0, 1, 1, 0);
        }
    }

    private static void otherLength() {
        Check.sentence("or another length.");
        SampleDesk x = Desks.table(0, 1, 1);
        int[][] orders = {
            {0, 0, 0, 0}, {1, 2, 0, 0}, {2, 1, 2, 0}, {3, 1, 1, 2}, {4, 1, 2, 1}, {5, 1, 2, 0}, {6, 1, 1, 1},
            {7, 1, 10, 0}, {8, 1, 1, 0},
        };
        for (int[] o : orders) {
            for (int length : new int[] {LEAST, -1, 13, 31, 32, 64, MOST}) {
                refusedBoth(x, Check.ARGUMENT, o[0], o[1], o[2], o[3], length);
            }
            Check.due("length 0", x.undecided(o[0], o[1], o[2], o[3], 0), 1);
            Check.holds("length 12", x.undecided(o[0], o[1], o[2], o[3], 12) < 4096);
        }
    }

    private static void asForDraw() {
        Check.sentence("IllegalArgumentException and IllegalStateException as for draw()");
        SampleDesk x = new SampleDesk();
        refusedBoth(x, Check.ARGUMENT, 2, 2, 1, 0, 3);
        refusedBoth(x, Check.ARGUMENT, 0, 8, 0, 0, 3);
        refusedBoth(x, Check.STATE, 0, 7, 0, 0, 3);
        refusedBoth(x, Check.STATE, 0, 0, 0, 0, 0);
        // both would be due: the first one told is thrown
        refusedBoth(x, Check.ARGUMENT, 0, 7, 0, 0, 13);
        refusedBoth(x, Check.ARGUMENT, 0, 0, 0, 0, -1);
    }

    private static void tapeIsNotAsked() {
        Check.sentence("decide a draw of kinds 0 to 8");
        SampleDesk none = new SampleDesk();
        SampleDesk full = Desks.full(-1);
        full.rewind(16384);
        int[][] orders = {
            {1, 6, 0, 0}, {2, 1, 3, 0}, {3, 3, 1, 3}, {5, 1, 2, 0}, {6, 2, 3, 2}, {7, 3, 1, 0}, {8, 1, 2, 0},
        };
        for (int[] o : orders) {
            for (int length : new int[] {0, 3, 12}) {
                Check.due(Desks.told(o[0], o[1], o[2], o[3]) + ", with no tape and at the end of a full one",
                        none.undecided(o[0], o[1], o[2], o[3], length), full.undecided(o[0], o[1], o[2], o[3], length));
            }
        }
        Check.due("the place of no tape", none.count(1), 0);
        Check.due("the place of a full one", full.count(1), 16384);
    }
}
