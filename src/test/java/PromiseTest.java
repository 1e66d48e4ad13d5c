import java.util.NoSuchElementException;

/** Promise by promise: ordinary inputs with answers worked out by hand, the document's edges, and wrong inputs. */
public final class PromiseTest {
    private static final Class<IndexOutOfBoundsException> INDEX = IndexOutOfBoundsException.class;
    private static final Class<IllegalArgumentException> ARGUMENT = IllegalArgumentException.class;
    private static final Class<IllegalStateException> STATE = IllegalStateException.class;
    private static final Class<NoSuchElementException> ENDED = NoSuchElementException.class;

    public static void main(String[] args) {
        newObject();
        feed();
        bit();
        rewind();
        weight();
        build();
        alias();
        drawTables();
        drawNumbers();
        drawCounts();
        drawPoissonAndBell();
        drawExponentialCoins();
        drawRows();
        drawRefusals();
        drawAtTheEnd();
        item();
        decided();
        undecided();
        journal();
        replay();
        count();
        Check.end();
    }

    /** A desk whose tape begins with the bits told (spaces don't count) and goes on with zeros. */
    private static SampleDesk withBits(String told) {
        SampleDesk x = new SampleDesk();
        String bits = told.replace(" ", "");
        for (int fed = 0; fed == 0 || fed < bits.length(); fed += 128) {
            int[] w = new int[4];
            for (int i = 0; i < 128 && fed + i < bits.length(); i++) {
                w[i / 32] |= (bits.charAt(fed + i) - '0') << (31 - i % 32);
            }
            x.feed(w[0], w[1], w[2], w[3]);
        }
        return x;
    }

    /** A draw from the bits told answers what is due, and reads just these bits. */
    private static void draws(String bits, int kind, int a, int b, int c, long due) {
        SampleDesk x = withBits(bits);
        String call = "draw(" + kind + ", " + a + ", " + b + ", " + c + ") from '" + bits + "'";
        Check.due(call, x.draw(kind, a, b, c), due);
        Check.due(call + ": bits", x.count(2), bits.replace(" ", "").length());
    }

    private static void drawsItems(String bits, int kind, int a, int b, int... due) {
        draws(bits, kind, a, b, 0, due.length);
        SampleDesk x = withBits(bits);
        x.draw(kind, a, b, 0);
        for (int i = 0; i < due.length; i++) {
            Check.due("item " + i + " of kind " + kind + " from '" + bits + "'", x.item(i), due[i]);
        }
        Check.refuses("the item beyond", INDEX, () -> x.item(due.length));
    }

    private static void newObject() {
        SampleDesk x = new SampleDesk();
        for (int what = 0; what <= 4; what++) {
            Check.due("new: count(" + what + ")", x.count(what), 0);
        }
        Check.refuses("new: item(0)", INDEX, () -> x.item(0));
        Check.refuses("new: journal(0, 0)", INDEX, () -> x.journal(0, 0));
        Check.refuses("new: replay(0)", INDEX, () -> x.replay(0));
        Check.refuses("new: bit(0, 0)", INDEX, () -> x.bit(0, 0));
        Check.refuses("new: draw(2, 1, 2, 0)", ENDED, () -> x.draw(2, 1, 2, 0));
        for (int table = 0; table < 8; table++) {
            int t = table;
            Check.refuses("new: build", STATE, () -> x.build(t, 0));
            Check.refuses("new: draw from a table", STATE, () -> x.draw(0, t, 0, 0));
            for (int i = 0; i < 64; i++) {
                Check.due("new: weight", x.weight(table, i, 0), 0);
            }
        }
        SampleDesk other = new SampleDesk();
        other.feed(-1, -1, -1, -1);
        other.weight(0, 0, 3);
        Check.due("objects share nothing: the tape", x.count(0), 0);
        Check.due("objects share nothing: the weights", x.weight(0, 0, 0), 0);
    }

    private static void feed() {
        SampleDesk x = new SampleDesk();
        Check.due("feed", x.feed(0x80000001, 0, 0x40000000, 1), 128);
        for (int i = 0; i < 128; i++) {
            Check.due("bit " + i + " fed", x.draw(1, 2, 0, 0), i == 0 || i == 31 || i == 65 || i == 127 ? 1 : 0);
        }
        Check.due("feed leaves the place", x.feed(-1, -1, -1, -1), 256);
        Check.due("the place", x.count(1), 128);
        Check.due("the bits fed later come behind", x.draw(1, 2, 0, 0), 1);
        for (int n = 3; n <= 128; n++) {
            Check.due("feed", x.feed(n, n, n, n), 128 * n);
        }
        Check.refuses("feed beyond 16384", STATE, () -> x.feed(0, 0, 0, 0));
        Check.due("the tape is as it was", x.count(0), 16384);
        Check.due("the last bits", x.bit(16376, 0), 1);
        x.rewind(16376);
        Check.due("the changed bit and those behind it", x.draw(1, 256, 0, 0), 0);
        Check.due("the place at the very end", x.count(1), 16384);
    }

    private static void bit() {
        SampleDesk x = new SampleDesk();
        x.feed(0x80000000, 0, 0, 0x7fffffff);
        Check.due("bit(0, 0)", x.bit(0, 0), 1);
        Check.due("bit(0, 1)", x.bit(0, 1), 0);
        Check.due("bit(0, 1) again", x.bit(0, 1), 1);
        Check.due("bit(127, 0)", x.bit(127, 0), 1);
        Check.due("bit(127, 0) again", x.bit(127, 0), 0);
        Check.due("bit(126, 1): the neighbour is as it was", x.bit(126, 1), 1);
        Check.due("bit(96, 1)", x.bit(96, 1), 0);
        Check.due("bit(95, 1)", x.bit(95, 1), 0);
        Check.refuses("bit(-1, 0)", INDEX, () -> x.bit(-1, 0));
        Check.refuses("bit(128, 0)", INDEX, () -> x.bit(128, 0));
        Check.refuses("bit(128, 2): the index is told first", INDEX, () -> x.bit(128, 2));
        Check.refuses("bit(5, 2)", ARGUMENT, () -> x.bit(5, 2));
        Check.refuses("bit(0, -1)", ARGUMENT, () -> x.bit(0, -1));
        Check.due("a refused bit changes nothing", x.bit(0, 1), 1);
        Check.due("bits leave the place", x.count(1), 0);
        Check.due("bits leave the size", x.count(0), 128);
    }

    private static void rewind() {
        SampleDesk x = new SampleDesk();
        Check.due("rewind(0) on an empty tape", x.rewind(0), 0);
        Check.refuses("rewind(1) on an empty tape", INDEX, () -> x.rewind(1));
        x.feed(0, 0, 0, 1);
        Check.due("rewind(127)", x.rewind(127), 0);
        Check.due("the last bit", x.draw(1, 2, 0, 0), 1);
        Check.due("rewind(128): the very end", x.rewind(128), 128);
        Check.due("rewind(5)", x.rewind(5), 128);
        Check.refuses("rewind(-1)", INDEX, () -> x.rewind(-1));
        Check.refuses("rewind(129)", INDEX, () -> x.rewind(129));
        Check.due("a refused rewind changes nothing", x.count(1), 5);
    }

    private static void weight() {
        SampleDesk x = new SampleDesk();
        Check.due("weight", x.weight(7, 63, Integer.MAX_VALUE), 0);
        Check.due("weight again", x.weight(7, 63, 5), Integer.MAX_VALUE);
        Check.due("another table", x.weight(6, 63, 1), 0);
        Check.refuses("weight(-1, 0, 0)", INDEX, () -> x.weight(-1, 0, 0));
        Check.refuses("weight(8, 0, 0)", INDEX, () -> x.weight(8, 0, 0));
        Check.refuses("weight(0, -1, 0)", INDEX, () -> x.weight(0, -1, 0));
        Check.refuses("weight(0, 64, -1): the index is told first", INDEX, () -> x.weight(0, 64, -1));
        Check.refuses("weight(7, 63, -1)", ARGUMENT, () -> x.weight(7, 63, -1));
        x.build(7, 0);
        Check.refuses("weight(7, 63, -1) of a built table", ARGUMENT, () -> x.weight(7, 63, -1));
        Check.due("a refused weight leaves the table built", x.draw(0, 7, 0, 0), 63);
        Check.due("and the weight as it was", x.weight(7, 63, 5), 5);
        Check.refuses("the same weight again: not built", STATE, () -> x.draw(0, 7, 0, 0));
        x.build(6, 0);
        x.weight(7, 0, 1);
        Check.due("a weight of another table leaves this one built", x.draw(0, 6, 0, 0), 63);
    }

    private static void build() {
        SampleDesk x = new SampleDesk();
        Check.refuses("build(-1, 0)", INDEX, () -> x.build(-1, 0));
        Check.refuses("build(8, 2): the index is told first", INDEX, () -> x.build(8, 2));
        Check.refuses("build(0, 2) of no weights: the argument is told first", ARGUMENT, () -> x.build(0, 2));
        Check.refuses("build(0, -1)", ARGUMENT, () -> x.build(0, -1));
        Check.refuses("build(0, 1) of no weights", STATE, () -> x.build(0, 1));
        for (int i = 0; i < 64; i++) {
            x.weight(3, i, Integer.MAX_VALUE);
        }
        Check.due("the sum is a long", x.build(3, 0), 64L * Integer.MAX_VALUE);
        Check.due("with aliases too", x.build(3, 1), 64L * Integer.MAX_VALUE);
        Check.due("a limit of equal weights", x.alias(3, 63, 0), 64L * Integer.MAX_VALUE);
        Check.refuses("another method", ARGUMENT, () -> x.build(3, 2));
        Check.due("leaves the table as it was built", x.alias(3, 5, 1), 5);
        x.build(3, 0);
        Check.refuses("built anew as a tree", STATE, () -> x.alias(3, 5, 1));
    }

    private static SampleDesk table(int method, int... weights) {
        SampleDesk x = new SampleDesk();
        for (int i = 0; i < weights.length; i++) {
            x.weight(0, i, weights[i]);
        }
        x.build(0, method);
        return x;
    }

    private static void aliases(int[] weights, long[] limits, int[] due) {
        SampleDesk x = table(1, weights);
        for (int i = 0; i < limits.length; i++) {
            Check.due("limit of " + i, x.alias(0, i, 0), limits[i]);
            Check.due("alias of " + i, x.alias(0, i, 1), due[i]);
        }
        Check.refuses("number n", INDEX, () -> x.alias(0, limits.length, 0));
    }

    private static void alias() {
        aliases(new int[] {1, 2, 4}, new long[] {3, 6, 7}, new int[] {2, 2, 2});
        // 0 is large, gives all away and comes behind the small ones, 1 and 2
        aliases(new int[] {5, 1, 0, 6}, new long[] {0, 4, 0, 12}, new int[] {3, 0, 0, 3});
        // S 8, shares 12, 0, 16, 4: 1 takes from 0, which is small then, so that 3 takes from 2
        aliases(new int[] {3, 0, 4, 1}, new long[] {4, 0, 8, 4}, new int[] {2, 0, 2, 2});
        // S 6, shares 15, 5, 0, 5, 5; what stands behind the last weight does not count
        aliases(new int[] {3, 1, 0, 1, 1, 0, 0}, new long[] {6, 5, 0, 5, 5}, new int[] {0, 0, 0, 0, 0});
        aliases(new int[] {4}, new long[] {4}, new int[] {0});
        aliases(new int[] {0, 0, 9}, new long[] {0, 0, 9}, new int[] {2, 2, 2});
        SampleDesk x = table(1, 1, 2, 4);
        Check.refuses("alias(0, 0, 2)", INDEX, () -> x.alias(0, 0, 2));
        Check.refuses("alias(0, 0, -1)", INDEX, () -> x.alias(0, 0, -1));
        Check.refuses("alias(0, -1, 0)", INDEX, () -> x.alias(0, -1, 0));
        Check.refuses("alias(8, 0, 0)", INDEX, () -> x.alias(8, 0, 0));
        Check.refuses("alias(-1, 0, 0)", INDEX, () -> x.alias(-1, 0, 0));
        Check.refuses("not built is asked before the number and what", STATE, () -> x.alias(1, 99, 9));
        x.build(0, 0);
        Check.refuses("built as a tree", STATE, () -> x.alias(0, 0, 0));
        x.build(0, 1);
        x.weight(0, 40, 0);
        Check.refuses("a weight came since", STATE, () -> x.alias(0, 0, 0));
    }

    private static void drawsFromTable(String bits, int method, long due, int... weights) {
        SampleDesk x = table(method, weights);
        x.feed(0, 0, 0, 0);
        for (int i = 0; i < bits.length(); i++) {
            x.bit(i, bits.charAt(i) - '0');
        }
        Check.due("table from '" + bits + "'", x.draw(0, 0, -5, -5), due);
        Check.due("table from '" + bits + "': bits", x.count(2), bits.length());
    }

    private static void drawTables() {
        drawsFromTable("0", 0, 2, 1, 2, 4);
        drawsFromTable("10", 0, 1, 1, 2, 4);
        drawsFromTable("110", 0, 0, 1, 2, 4);
        drawsFromTable("1110", 0, 2, 1, 2, 4);
        drawsFromTable("111110", 0, 0, 1, 2, 4);
        drawsFromTable("", 0, 1, 0, 7, 0);
        // thirds: both bits of '00', '01', '10' find a leaf, '11' begins anew
        drawsFromTable("00", 0, 0, 1, 1, 1);
        drawsFromTable("01", 0, 1, 1, 1, 1);
        drawsFromTable("10", 0, 2, 1, 1, 1);
        drawsFromTable("1101", 0, 1, 1, 1, 1);
        // aliases: limits 3, 6, 7 by 7 (3/7 is 0.011011.., 6/7 is 0.110110..), all with alias 2
        drawsFromTable("0000", 1, 0, 1, 2, 4);
        drawsFromTable("001", 1, 2, 1, 2, 4);
        drawsFromTable("010", 1, 1, 1, 2, 4);
        drawsFromTable("01111", 1, 2, 1, 2, 4);
        drawsFromTable("10", 1, 2, 1, 2, 4);
        drawsFromTable("1110", 1, 2, 1, 2, 4);
        drawsFromTable("", 1, 0, 7);
    }

    private static void drawNumbers() {
        draws("", 1, 1, 0, 0, 0);
        draws("1", 1, 2, 0, 0, 1);
        draws("10", 1, 3, 0, 0, 2);
        draws("11 01", 1, 3, 0, 0, 1);
        draws("1110", 1, 5, 0, 0, 4);
        draws("1111 011", 1, 5, 0, 0, 3);
        draws("1" + "0".repeat(30), 1, 0, 1, 0, 1L << 30);
        draws("0" + "1".repeat(39), 1, Integer.MAX_VALUE, 511, 0, (1L << 39) - 1);
        draws("1".repeat(39) + "0", 1, Integer.MAX_VALUE, 511, 0, (1L << 40) - 2);
        draws("", 2, 0, 5, 0, 0);
        draws("", 2, 5, 5, 0, 1);
        draws("0", 2, 1, 2, 0, 1);
        draws("1", 2, 1, 2, 0, 0);
        draws("1", 2, 1, 3, 0, 0);
        draws("00", 2, 1, 3, 0, 1);
        draws("011", 2, 1, 3, 0, 0);
        draws("0100", 2, 1, 3, 0, 1);
        draws("11", 2, 3, 4, 0, 0);
        draws("10", 2, 3, 4, -9, 1);
        draws("0".repeat(31), 2, 1, Integer.MAX_VALUE, 0, 1);
        draws("1".repeat(30) + "00", 2, Integer.MAX_VALUE - 1, Integer.MAX_VALUE, 0, 1);
        draws("1".repeat(31), 2, Integer.MAX_VALUE - 1, Integer.MAX_VALUE, 0, 0);
    }

    private static void drawCounts() {
        draws("", 3, 0, 1, 2, 0);
        draws("", 3, 1000, 0, 1, 0);
        draws("", 3, 1000, 3, 3, 1000);
        draws("0 1 0 0", 3, 4, 1, 2, 3);
        draws("00 1 1", 3, 3, 1, 3, 1);
        draws("0", 4, 1, 2, 9, 0);
        draws("1 1 0", 4, 1, 2, 9, 2);
        draws("1 1 1", 4, 1, 2, 3, 3);
        draws("", 4, 1, 2, 0, 0);
        draws("", 4, 0, 1, 100000, 100000);
        draws("", 4, 7, 7, 100000, 0);
        draws("", 6, 0, 0, 0, 0);
        draws("", 6, 5, 5, 0, 0);
        draws("", 6, 100000, 0, 100000, 100000);
        draws("", 6, 0, 100000, 99999, 0);
        draws("0", 6, 1, 1, 2, 1);
        draws("1", 6, 1, 1, 1, 0);
        // a 1, b 2: 1 by 3 is 0 by '1', then 1 by 2 is 1 by '0', the last one is sure
        draws("1 0", 6, 1, 2, 3, 1);
        // a 2, b 1: 2 by 3 (0.1010..) is 1 by '0', then 1 by 2 is 0 by '1', then a alone is left
        draws("0 1", 6, 2, 1, 3, 2);
        draws("0 1", 6, 2, 1, 2, 1);
    }

    private static void drawPoissonAndBell() {
        draws("", 5, 0, 1, 0, 0);
        // 1 by 2: t is 1, coins of 1 by 2
        draws("1", 5, 1, 2, 0, 0);
        draws("0 1", 5, 1, 2, 0, 1);
        draws("0 0 1 0", 5, 1, 2, 0, 2);
        draws("001 1 01", 5, 1, 2, 0, 1);
        // three ones: UNIFORM 2, then UNIFORM 3
        draws("0001 0 00", 5, 1, 2, 0, 3);
        draws("0001 0 01 1", 5, 1, 2, 0, 0);
        draws("0001 1 1", 5, 1, 2, 0, 0);
        // 1 by 1: t is 2; 2 by 3: t is 2 (rounded up), coins of 2 by 6
        draws("01 1", 5, 1, 1, 0, 1);
        draws("1 1", 5, 2, 3, 0, 0);
        draws("00 1 1", 5, 2, 3, 0, 1);
        draws("1".repeat(128), 5, 64, 1, 0, 0);
        // variance 1 by 10: t is 1; v 0 by '1', the sign, and the coin of 1 by 20 (0.00001100..)
        draws("1 0 1", 7, 1, 10, 0, 0);
        draws("1 1 1 0 1", 7, 1, 10, 0, 0);
        // variance 1 by 1: t is 2, u by UNIFORM 2, coin of u by 2, v, sign, coin of (2 * y - 1)^2 by 8
        draws("0 1 0 1", 7, 1, 1, 0, 0);
        draws("1 1 1 0 1", 7, 1, 1, 0, 1);
        draws("1 1 1 1 1", 7, 1, 1, 0, -1);
    }

    private static void drawExponentialCoins() {
        draws("", 8, 0, 1, 0, 1);
        draws("1", 8, 1, 1, 0, 0);
        draws("01", 8, 1, 1, 0, 1);
        draws("00 0 1", 8, 1, 1, 0, 0);
        // 1 by 2: COIN 1 by 2, COIN 1 by 4 (0.01)
        draws("1", 8, 1, 2, 0, 1);
        draws("01", 8, 1, 2, 0, 0);
        draws("0 00 1", 8, 1, 2, 0, 1);
        // 3 by 2: one whole, then 1 by 2; with the first 0 it is over
        draws("1", 8, 3, 2, 0, 0);
        draws("01 1", 8, 3, 2, 0, 1);
        draws("01 01", 8, 3, 2, 0, 0);
        draws("01 01", 8, 4, 2, 0, 1);
        draws("01".repeat(1000), 8, 1000, 1, 0, 1);
        draws("01".repeat(999) + "1", 8, 2000, 2, 0, 0);
    }

    private static void drawRows() {
        drawsItems("", 9, 0, 0);
        drawsItems("", 9, 1, 0, 0);
        drawsItems("0", 9, 2, -7, 1, 0);
        drawsItems("1", 9, 2, 0, 0, 1);
        // i 2 with 0: 2 1 0; i 1 with 0: 1 2 0
        drawsItems("00 0", 9, 3, 0, 1, 2, 0);
        drawsItems("01 1", 9, 3, 0, 0, 2, 1);
        drawsItems("", 10, 0, 0);
        drawsItems("", 10, 3, 0);
        drawsItems("", 10, 3, 3, 0, 1, 2);
        drawsItems("0", 10, 2, 1, 0);
        drawsItems("1", 10, 2, 1, 1);
        // 1 by 3 is 0 by '1'; 1 by 2 is 0 by '1'; the last is sure
        drawsItems("1 1", 10, 3, 1, 2);
        // 2 by 4 is 1 by '0'; 1 by 3 is 0 by '1'; 1 by 2 is 1 by '0'
        drawsItems("0 1 0", 10, 4, 2, 0, 2);
        drawsItems("", 11, 0, 0);
        drawsItems("", 11, 1, 0, 1, 0);
        // n 2: up; h 1, r 3: a coin of 6 by 12
        drawsItems("0", 11, 2, 0, 1, 1, 0, 0);
        drawsItems("1", 11, 2, 0, 1, 0, 1, 0);
        drawsItems("", 12, 0, 0);
        drawsItems("", 12, 1, 0, 0);
        drawsItems("0", 12, 2, 0, 1, 0);
        drawsItems("1", 12, 2, 0, 0, 0);
        // n 3: h 1, r 5: 12 by 20 (0.1001..); h 2, r 4: 8 by 24; h 1, r 3: 6 by 12: up up down up down down
        drawsItems("0 1 0", 11, 3, 0, 1, 1, 0, 1, 0, 0);
        drawsItems("0 1 0", 12, 3, 0, 2, 0, 0);
        drawsItems("0 00", 12, 3, 0, 2, 1, 0);
        drawsItems("0 1 1", 12, 3, 0, 1, 0, 0);
        drawsItems("", 13, 0, 5);
        drawsItems("00 0", 13, 3, 1, 0, 0, 0);
        drawsItems("00 0", 13, 3, 3, 1, 2, 0);
        // 0 1 2 3; i 3 with 1: 0 3 2 1; i 2 with 0: 2 3 0 1; i 1 with 1
        drawsItems("01 00 1", 13, 4, 2, 0, 1, 0, 1);
    }

    private static void refused(int kind, int a, int b, int c) {
        SampleDesk x = new SampleDesk();
        x.feed(5, 6, 7, 8);
        String call = "draw(" + kind + ", " + a + ", " + b + ", " + c + ")";
        Check.refuses(call, ARGUMENT, () -> x.draw(kind, a, b, c));
        Check.due(call + " leaves the draws", x.count(4), 0);
        Check.refuses("undecided: " + call, ARGUMENT, () -> x.undecided(kind, a, b, c, 3));
        Check.refuses("decided: " + call, ARGUMENT, () -> x.decided(kind, a, b, c, 3, 0));
    }

    private static void drawRefusals() {
        int most = Integer.MAX_VALUE;
        int least = Integer.MIN_VALUE;
        int[][] wrong = {
            {-1, 1, 1, 1}, {14, 1, 1, 1}, {least, 0, 0, 0}, {most, 0, 0, 0},
            {0, -1, 0, 0}, {0, 8, 0, 0}, {0, least, 0, 0},
            {1, 0, 0, 0}, {1, -1, 0, 0}, {1, -1, 1, 0}, {1, 1, -1, 0}, {1, 0, 512, 0}, {1, least, 1, 0},
            {2, -1, 2, 0}, {2, 3, 2, 0}, {2, 0, 0, 0}, {2, -1, -1, 0}, {2, 1, 0, 0},
            {3, -1, 1, 2}, {3, 1001, 1, 2}, {3, 5, -1, 2}, {3, 5, 3, 2}, {3, 5, 0, 0}, {3, 0, 1, 0},
            {4, -1, 2, 3}, {4, 3, 2, 3}, {4, 0, 0, 3}, {4, 1, 2, -1}, {4, 1, 2, 100001},
            {5, -1, 1, 0}, {5, 1, 0, 0}, {5, 65, 1, 0}, {5, 129, 2, 0}, {5, 0, 0, 0}, {5, most, 33554431, 0},
            {6, -1, 5, 1}, {6, 5, -1, 1}, {6, 100001, 0, 1}, {6, 0, 100001, 1}, {6, 1, 1, 3}, {6, 1, 1, -1},
            {6, most, most, 1},
            {7, 0, 1, 0}, {7, 1001, 1, 0}, {7, 1, 0, 0}, {7, 1, 11, 0}, {7, -4, -2, 0},
            {8, -1, 1, 0}, {8, 1001, 1, 0}, {8, 1, 0, 0}, {8, 2001, 2, 0}, {8, most, 2147483, 0}, {8, 0, -1, 0},
            {9, -1, 0, 0}, {9, 257, 0, 0}, {10, -1, 0, 0}, {10, 257, 1, 0}, {10, 4, 5, 0}, {10, 4, -1, 0},
            {11, -1, 0, 0}, {11, 129, 0, 0}, {12, -1, 0, 0}, {12, 129, 0, 0},
            {13, -2, 2, 0}, {13, 257, 1, 0}, {13, 258, 2, 0}, {13, 7, 2, 0}, {13, 0, 0, 0}, {13, 4, -2, 0},
            {13, 3, 6, 0}, {13, least, -1, 0},
        };
        for (int[] w : wrong) {
            refused(w[0], w[1], w[2], w[3]);
        }
        drawTakes();
    }

    /** The greatest numbers that may be, where the refusals above are one beyond. */
    private static void drawTakes() {
        SampleDesk x = new SampleDesk();
        for (int i = 0; i < 128; i++) {
            x.feed(0x5a5a1234 + i, 0x7654321 * i, ~i, 0x13579bdf ^ i);
        }
        int[][] right = {
            {1, Integer.MAX_VALUE, 511, -1}, {3, 1000, 1, 2}, {4, 1, 3, 100000}, {5, 64, 1, -1}, {5, 128, 2, -1},
            {5, Integer.MAX_VALUE, 33554432, -1}, {6, 100000, 100000, 50}, {7, 1000, 1, -1}, {7, 1, 10, -1},
            {7, 1000, 10, -1}, {8, 1000, 1, -1}, {8, Integer.MAX_VALUE, 2147484, -1}, {9, 256, -1, -1},
            {10, 256, 128, -1}, {10, 256, 256, -1}, {11, 128, -1, -1}, {12, 128, -1, -1}, {13, 256, 256, -1},
            {13, 256, 1, -1}, {13, 0, Integer.MAX_VALUE, -1},
        };
        for (int[] w : right) {
            String got = Check.outcome(() -> x.draw(w[0], w[1], w[2], w[3]));
            Check.holds("draw(" + w[0] + ", " + w[1] + ", " + w[2] + ", " + w[3] + ") answered " + got,
                    !got.startsWith("throws"));
        }
    }

    private static void drawAtTheEnd() {
        SampleDesk x = withBits("");
        x.draw(9, 3, 0, 0);
        x.rewind(126);
        // the last two bits '01' decide none of the draws below
        x.bit(127, 1);
        int[] before = {x.count(0), x.count(1), x.count(2), x.count(3), x.count(4)};
        int first = x.item(0);
        int[][] longer = {
            {1, 5, 0, 0}, {2, 1, 3, 0}, {3, 3, 1, 2}, {4, 1, 3, 9}, {5, 64, 1, 0}, {6, 5, 5, 5}, {7, 5, 1, 0},
            {9, 5, 0, 0}, {10, 9, 4, 0}, {11, 9, 0, 0}, {12, 9, 0, 0}, {13, 6, 2, 0},
        };
        for (int[] w : longer) {
            Check.refuses("kind " + w[0] + " at the end", ENDED, () -> x.draw(w[0], w[1], w[2], w[3]));
            for (int what = 0; what <= 4; what++) {
                Check.due("count(" + what + ") is as it was", x.count(what), before[what]);
            }
            Check.due("the items are as they were", x.item(0), first);
            Check.refuses("and as many", INDEX, () -> x.item(3));
        }
        x.bit(126, 0);
        x.bit(127, 0);
        Check.refuses("an exponential coin at the end", ENDED, () -> x.draw(8, 1, 1, 0));
        Check.due("a draw that ends with the tape", x.draw(1, 4, 0, 0), 0);
        Check.due("a draw without a bit at the end", x.draw(2, 1, 1, 0), 1);
    }

    private static void item() {
        SampleDesk x = withBits("00 0");
        x.draw(9, 3, 0, 0);
        x.draw(1, 8, 0, 0);
        Check.due("a number draw leaves the items", x.item(0), 1);
        Check.due("item(2)", x.item(2), 0);
        Check.refuses("item(3)", INDEX, () -> x.item(3));
        Check.refuses("item(-1)", INDEX, () -> x.item(-1));
        Check.refuses("a refused draw", ARGUMENT, () -> x.draw(9, 257, 0, 0));
        Check.due("leaves the items", x.item(1), 2);
        x.replay(0);
        x.undecided(3, 2, 1, 2, 5);
        Check.due("a replay and counts leave the items", x.item(0), 1);
        x.draw(11, 1, 0, 0);
        Check.due("a later draw of items", x.item(1), 0);
        Check.refuses("has items of its own", INDEX, () -> x.item(2));
        x.draw(10, 5, 0, 0);
        Check.refuses("also none", INDEX, () -> x.item(0));
    }

    private static void decided() {
        SampleDesk x = withBits("1");
        Check.due("thirds: 1", x.decided(2, 1, 3, 0, 4, 1), 5);
        Check.due("thirds: 0", x.decided(2, 1, 3, 0, 4, 0), 10);
        Check.due("no such outcome", x.decided(2, 1, 3, 0, 4, 2), 0);
        Check.due("no such outcome", x.decided(2, 1, 3, 0, 4, -1), 0);
        Check.due("length 0, without a bit", x.decided(2, 4, 4, 0, 0, 1), 1);
        Check.due("length 0, with a bit", x.decided(2, 1, 2, 0, 0, 1), 0);
        Check.due("length 12", x.decided(2, 1, 2, 0, 12, 1), 2048);
        Check.due("uniform of eight", x.decided(1, 8, 0, 0, 3, 7), 1);
        Check.due("uniform of a great number", x.decided(1, 0, 1, 0, 12, 0), 0);
        Check.due("a number above an int", x.decided(1, 0, 511, 0, 12, -1), 0);
        Check.due("bell, minus 1", x.decided(7, 1, 1, 0, 5, -1), x.decided(7, 1, 1, 0, 5, 1));
        refusedStrings(x);
        for (int what = 0; what <= 4; what++) {
            Check.due("counting changes nothing", x.count(what), what == 0 ? 128 : 0);
        }
        SampleDesk y = table(1, 1, 1, 0, 2);
        // n 4, S 4, shares 4, 4, 0, 8: limits 0, 0, 0, 4 with aliases 1, 3, 0, 3
        Check.due("aliases: 3", y.decided(0, 0, 0, 0, 2, 3), 2);
        Check.due("aliases: 2", y.decided(0, 0, 0, 0, 2, 2), 0);
        y.build(0, 0);
        Check.due("tree: 3 by one bit", y.decided(0, 0, 0, 0, 1, 3), 1);
    }

    private static void refusedStrings(SampleDesk x) {
        for (int kind = 9; kind <= 14; kind++) {
            int k = kind;
            Check.refuses("decided for kind " + k, ARGUMENT, () -> x.decided(k, 2, 1, 0, 3, 0));
            Check.refuses("undecided for kind " + k, ARGUMENT, () -> x.undecided(k, 2, 1, 0, 3));
        }
        Check.refuses("decided, length 13", ARGUMENT, () -> x.decided(2, 1, 2, 0, 13, 0));
        Check.refuses("decided, length -1", ARGUMENT, () -> x.decided(2, 1, 2, 0, -1, 0));
        Check.refuses("undecided, length 13", ARGUMENT, () -> x.undecided(2, 1, 2, 0, 13));
        Check.refuses("undecided, length -1", ARGUMENT, () -> x.undecided(2, 1, 2, 0, -1));
        Check.refuses("decided, table not built", STATE, () -> x.decided(0, 3, 0, 0, 5, 0));
        Check.refuses("undecided, table not built", STATE, () -> x.undecided(0, 3, 0, 0, 5));
        Check.refuses("decided: the length is told first", ARGUMENT, () -> x.decided(0, 3, 0, 0, 13, 0));
        Check.refuses("undecided: the length is told first", ARGUMENT, () -> x.undecided(0, 3, 0, 0, 13));
    }

    private static void undecided() {
        SampleDesk x = new SampleDesk();
        for (int length = 0; length <= 12; length++) {
            Check.due("thirds, length " + length, x.undecided(2, 1, 3, 0, length), 1);
            Check.due("a sure coin", x.undecided(2, 1, 1, 0, length), 0);
            Check.due("uniform of 2^12", x.undecided(1, 4096, 0, 0, length), length < 12 ? 1 << length : 0);
        }
        Check.due("uniform 3", x.undecided(1, 3, 0, 0, 2), 1);
        Check.due("uniform 5", x.undecided(1, 5, 0, 0, 3), 3);
        Check.due("geometric with cap", x.undecided(4, 1, 2, 3, 2), 1);
    }

    private static void journal() {
        SampleDesk x = withBits("110");
        x.draw(1, 2, 0, -77);
        x.draw(9, 2, -5, 6);
        x.draw(1, 0, 1, 9);
        long[][] due = {{1, 2, 0, -77, 0, 1, 1}, {9, 2, -5, 6, 1, 1, 2}, {1, 0, 1, 9, 2, 31, 0}};
        for (int i = 0; i < due.length; i++) {
            for (int what = 0; what <= 6; what++) {
                Check.due("journal(" + i + ", " + what + ")", x.journal(i, what), due[i][what]);
            }
        }
        Check.refuses("journal(3, 0)", INDEX, () -> x.journal(3, 0));
        Check.refuses("journal(-1, 0)", INDEX, () -> x.journal(-1, 0));
        Check.refuses("journal(0, 7)", INDEX, () -> x.journal(0, 7));
        Check.refuses("journal(0, -1)", INDEX, () -> x.journal(0, -1));
        Check.refuses("a refused draw", ARGUMENT, () -> x.draw(2, 2, 1, 0));
        Check.due("is not kept", x.count(3), 3);
        for (int n = 3; n < 250; n++) {
            x.draw(4, 0, 1, n);
            Check.due("the journal's size", x.count(3), Math.min(n + 1, 100));
            Check.due("the latest", x.journal(x.count(3) - 1, 6), n);
        }
        Check.due("the oldest kept", x.journal(0, 3), 150);
        Check.due("the fiftieth", x.journal(50, 6), 200);
        Check.refuses("journal(100, 0)", INDEX, () -> x.journal(100, 0));
        Check.due("all draws", x.count(4), 250);
    }

    private static void replay() {
        SampleDesk x = withBits("1 01 00 0 1");
        x.draw(1, 2, 0, 0);
        x.draw(1, 3, 0, 0);
        x.draw(9, 3, 0, 0);
        x.draw(2, 1, 1, 0);
        for (int i = 0; i < 4; i++) {
            Check.holds("replay(" + i + ")", x.replay(i));
        }
        x.bit(2, 0);
        Check.holds("another answer", !x.replay(1));
        x.bit(2, 1);
        Check.holds("the bit is back", x.replay(1));
        x.bit(1, 1);
        Check.holds("other bits read", !x.replay(1));
        x.bit(5, 1);
        Check.holds("as many bits and the same answer, but other items", !x.replay(2));
        Check.holds("without a bit", x.replay(3));
        Check.refuses("replay(4)", INDEX, () -> x.replay(4));
        Check.refuses("replay(-1)", INDEX, () -> x.replay(-1));
        Check.due("the place is as it was", x.count(1), 6);
        Check.due("the latest bits too", x.count(2), 0);
        Check.due("and the draws", x.count(4), 4);
        Check.due("and the items", x.item(0), 1);
        replayOfTables();
        replayAtTheEnd();
        replayWithTheSameSum();
        replayWithSumsAModulusApart();
    }

    private static void replayOfTables() {
        SampleDesk x = table(0, 1, 2, 4);
        x.feed(0, 0, 0, 0);
        x.draw(0, 0, 0, 0);
        Check.holds("a table", x.replay(0));
        x.weight(0, 0, 1);
        Check.holds("a table that is not built", !x.replay(0));
        x.build(0, 1);
        Check.holds("a table that is built otherwise", !x.replay(0));
        x.build(0, 0);
        Check.holds("a table that is built as it was", x.replay(0));
    }

    private static void replayAtTheEnd() {
        SampleDesk x = new SampleDesk();
        x.feed(0, 0, 0, 0);
        x.rewind(126);
        x.draw(1, 3, 0, 0);
        x.bit(126, 1);
        x.bit(127, 1);
        Check.holds("the tape ends", !x.replay(0));
        Check.due("and nothing is changed", x.count(1), 128);
    }

    /** Among the shuffles of four some have the same sum: they count as the same items. */
    private static void replayWithTheSameSum() {
        SampleDesk x = withBits("00 00 0");
        x.draw(9, 4, 0, 0);
        long sum = sum(x);
        for (int s = 0; s < 32; s++) {
            String bits = Integer.toBinaryString(32 + s).substring(1);
            SampleDesk y = withBits(bits);
            y.draw(9, 4, 0, 0);
            for (int i = 0; i < 5; i++) {
                x.bit(i, bits.charAt(i) - '0');
            }
            Check.same("replay of a shuffle with bits " + bits, x.replay(0), y.count(2) == 5 && sum(y) == sum);
        }
    }

    /** The bits by which SHUFFLE n makes the row whose place q has the item that came there last from swaps[q]. */
    private static String shuffleBits(int[] swaps) {
        StringBuilder bits = new StringBuilder();
        for (int i = swaps.length - 1; i >= 1; i--) {
            int width = 32 - Integer.numberOfLeadingZeros(i);
            bits.append(Integer.toBinaryString((1 << width) + swaps[i]).substring(1));
        }
        return bits.toString();
    }

    private static void setBits(SampleDesk x, String before, String after) {
        for (int i = 0; i < before.length(); i++) {
            if (before.charAt(i) != after.charAt(i)) {
                x.bit(i, after.charAt(i) - '0');
            }
        }
    }

    /** Two places that are d apart and change their items in a row in order lessen the sum by d squared. */
    private static void replayWithSumsAModulusApart() {
        int[] swaps = new int[256];
        for (int i = 0; i < 256; i++) {
            swaps[i] = i;
        }
        String inOrder = shuffleBits(swaps);
        for (int i = 0; i < 61; i++) {
            swaps[i + 128] = i;
        }
        swaps[85] = 61;
        swaps[101] = 100;
        swaps[103] = 102;
        swaps[105] = 104;
        Check.due("lessened by", 61 * 128 * 128 + 24 * 24 + 3, 1000003);
        String swapped = shuffleBits(swaps);
        SampleDesk x = withBits(inOrder);
        x.draw(9, 256, 0, 0);
        Check.due("all in order", x.item(255), 255);
        Check.holds("as drawn", x.replay(0));
        setBits(x, inOrder, swapped);
        Check.holds("a sum that differs by the modulus", x.replay(0));
        swaps[107] = 106;
        setBits(x, swapped, shuffleBits(swaps));
        Check.holds("and one that differs by one more", !x.replay(0));
    }

    private static long sum(SampleDesk x) {
        return x.item(0) + 2L * x.item(1) + 3L * x.item(2) + 4L * x.item(3);
    }

    private static void count() {
        SampleDesk x = new SampleDesk();
        x.feed(0, 0, 0, 0);
        x.feed(0, 0, 0, 0);
        x.draw(1, 16, 0, 0);
        x.rewind(100);
        x.draw(1, 4, 0, 0);
        Check.due("bits on the tape", x.count(0), 256);
        Check.due("the place", x.count(1), 102);
        Check.due("bits of the latest draw", x.count(2), 2);
        Check.due("entries", x.count(3), 2);
        Check.due("draws", x.count(4), 2);
        x.draw(2, 0, 1, 0);
        Check.due("a draw without a bit", x.count(2), 0);
        Check.due("count(5)", x.count(5), SampleDesk.NONE);
        Check.due("count(-1)", x.count(-1), SampleDesk.NONE);
        Check.due("count(MIN)", x.count(Integer.MIN_VALUE), SampleDesk.NONE);
        Check.due("count(MAX)", x.count(Integer.MAX_VALUE), SampleDesk.NONE);
    }
}
