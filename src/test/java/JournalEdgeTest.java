import java.util.Arrays;

/** The edges of what is kept of draws: items, the journal, replays and counts, that is, promises 9 and 12 to 14. */
public final class JournalEdgeTest {
    private static final int LEAST = Integer.MIN_VALUE;
    private static final int MOST = Integer.MAX_VALUE;

    public static void main(String[] args) {
        latestItems();
        itemsStay();
        noSuchItem();
        lastHundred();
        goesRound();
        threwNothing();
        whats();
        numbersAsGiven();
        noSuchEntry();
        replayBits();
        replayAnswer();
        replayItems();
        replaySameSum();
        replayOneMoreThanItsIndex();
        replayModulus();
        replayTables();
        replayTapeEnds();
        replayChangesNothing();
        noSuchReplay();
        countTape();
        countPlace();
        countBits();
        countEntries();
        countDraws();
        countNone();
        Check.end();
    }

    private static void latestItems() {
        Check.sentence("Item i of the latest draw of kinds 9 to 13 that threw nothing.");
        SampleDesk x = Desks.full(0);
        x.draw(9, 256, 0, 0);
        Check.due("item(254) of 256", x.item(254), 255);
        Check.due("item(255) of 256", x.item(255), 0);
        Check.refuses("item(256)", Check.INDEX, () -> x.item(256));
        int[][] later = {{10, 5, 5, 4}, {11, 1, 0, 0}, {12, 2, 0, 0}, {13, 4, 2, 0}, {9, 1, 0, 0}};
        int[] sizes = {5, 2, 2, 4, 1};
        for (int i = 0; i < later.length; i++) {
            int[] d = later[i];
            int size = sizes[i];
            Check.due("items of kind " + d[0], x.draw(d[0], d[1], d[2], 0), size);
            Check.due("its last item", x.item(size - 1), d[3]);
            Check.refuses("one more", Check.INDEX, () -> x.item(size));
        }
        for (int[] none : new int[][] {{9, 0, 0}, {10, 7, 0}, {11, 0, 0}, {12, 0, 0}, {13, 0, 3}}) {
            x.draw(9, 1, 0, 0);
            Check.due("an item", x.item(0), 0);
            x.draw(none[0], none[1], none[2], 0);
            Check.refuses("none of kind " + none[0], Check.INDEX, () -> x.item(0));
        }
    }

    private static void itemsStay() {
        Check.sentence("the latest draw of kinds 9 to 13");
        SampleDesk x = Desks.withBits("01 1");
        Desks.weigh(x, 0, 1, 1);
        x.build(0, 0);
        x.draw(9, 3, 0, 0);
        int[][] numbers = {
            {0, 0, 0, 0}, {1, 8, 0, 0}, {2, 1, 2, 0}, {3, 3, 1, 2}, {4, 1, 2, 9}, {5, 1, 2, 0}, {6, 2, 2, 2},
            {7, 3, 1, 0}, {8, 1, 2, 0},
        };
        for (int[] n : numbers) {
            x.feed(-1, -1, -1, -1);
            x.rewind(x.count(0) - 100);
            x.draw(n[0], n[1], n[2], n[3]);
            Check.due("item(0) behind kind " + n[0], x.item(0), 0);
            Check.due("item(1) behind kind " + n[0], x.item(1), 2);
            Check.due("item(2) behind kind " + n[0], x.item(2), 1);
            Check.refuses("item(3) behind kind " + n[0], Check.INDEX, () -> x.item(3));
        }
    }

    private static void noSuchItem() {
        Check.sentence("IndexOutOfBoundsException, when there is none.");
        SampleDesk x = Desks.withBits("");
        for (int i : new int[] {LEAST, -1, 0, 1, MOST}) {
            Check.refuses("item(" + i + ") of no draw", Check.INDEX, () -> x.item(i));
        }
        x.draw(1, 4, 0, 0);
        Check.refuses("item(0) of a draw that has none", Check.INDEX, () -> x.item(0));
        x.draw(10, 6, 6, 0);
        for (int i : new int[] {LEAST, -1, 6, 255, 256, MOST}) {
            Check.refuses("item(" + i + ") of 6", Check.INDEX, () -> x.item(i));
        }
        Check.due("item(0) of 6", x.item(0), 0);
        Check.due("item(5) of 6", x.item(5), 5);
    }

    /** Draws that need no bit and whose answer is their number: the nth draw answers n. */
    private static void numbered(SampleDesk x, int from, int to) {
        for (int n = from; n <= to; n++) {
            x.draw(4, 0, 1, n);
        }
    }

    private static void lastHundred() {
        Check.sentence("THE JOURNAL keeps the last 100 draws");
        SampleDesk x = new SampleDesk();
        numbered(x, 1, 99);
        Check.due("99 draws", x.count(3), 99);
        Check.due("the oldest of 99", x.journal(0, 6), 1);
        Check.refuses("the 100th of 99", Check.INDEX, () -> x.journal(99, 6));
        numbered(x, 100, 100);
        Check.due("100 draws", x.count(3), 100);
        Check.due("the oldest of 100", x.journal(0, 6), 1);
        Check.due("the latest of 100", x.journal(99, 6), 100);
        numbered(x, 101, 101);
        Check.due("101 draws", x.count(3), 100);
        Check.due("the oldest of 101", x.journal(0, 6), 2);
        Check.due("the latest of 101", x.journal(99, 6), 101);
        Check.refuses("the 101st", Check.INDEX, () -> x.journal(100, 6));
    }

    private static void goesRound() {
        Check.sentence("entry i of the journal (0: the oldest kept)");
        for (int draws : new int[] {1, 100, 101, 150, 199, 200, 201, 300, 411}) {
            SampleDesk x = new SampleDesk();
            numbered(x, 1, draws);
            int kept = Math.min(draws, 100);
            for (int i = 0; i < kept; i++) {
                Check.due("entry " + i + " of " + draws + " draws", x.journal(i, 6), draws - kept + 1 + i);
            }
        }
    }

    private static void threwNothing() {
        Check.sentence("the last 100 draws that threw nothing");
        SampleDesk x = new SampleDesk();
        numbered(x, 1, 100);
        Check.refuses("no such number", Check.ARGUMENT, () -> x.draw(2, 3, 2, 0));
        Check.refuses("no table", Check.STATE, () -> x.draw(0, 0, 0, 0));
        Check.refuses("no tape", Check.ENDED, () -> x.draw(2, 1, 2, 0));
        Check.due("the oldest is still there", x.journal(0, 6), 1);
        Check.due("and the latest the same", x.journal(99, 6), 100);
        Check.due("entries", x.count(3), 100);
        Check.due("draws", x.count(4), 100);
    }

    private static void whats() {
        Check.sentence("its kind (what 0), numbers (1, 2, 3), the place where it began (4), how many bits it read (5), "
                + "its answer (6).");
        SampleDesk x = Desks.withBits("11 10 1" + "1".repeat(123));
        x.rewind(128);
        x.draw(2, 0, 7, 3);
        x.rewind(89);
        x.draw(1, 0, 256, 5);
        x.rewind(0);
        x.draw(13, 4, 2, 8);
        x.draw(7, 3, 1, 4);
        x.rewind(3);
        long[][] due = {
            {2, 0, 7, 3, 128, 0, 0}, {1, 0, 256, 5, 89, 39, 549755813887L}, {13, 4, 2, 8, 0, 5, 4},
            {7, 3, 1, 4, 5, 5, -1},
        };
        for (int i = 0; i < due.length; i++) {
            for (int what = 0; what <= 6; what++) {
                Check.due("journal(" + i + ", " + what + ")", x.journal(i, what), due[i][what]);
            }
        }
    }

    private static void numbersAsGiven() {
        Check.sentence("numbers (1, 2, 3)");
        SampleDesk x = new SampleDesk();
        x.draw(9, 1, LEAST, MOST);
        x.draw(2, MOST, MOST, -1);
        Check.due("b that is not looked at", x.journal(0, 2), LEAST);
        Check.due("c that is not looked at", x.journal(0, 3), MOST);
        Check.due("a", x.journal(1, 1), MOST);
        Check.due("c", x.journal(1, 3), -1);
    }

    private static void noSuchEntry() {
        Check.sentence("IndexOutOfBoundsException, when there is none, or for another what.");
        SampleDesk x = new SampleDesk();
        for (int i : new int[] {LEAST, -1, 0, 1, 99, MOST}) {
            Check.refuses("journal(" + i + ", 0) of none", Check.INDEX, () -> x.journal(i, 0));
        }
        numbered(x, 1, 3);
        for (int i : new int[] {LEAST, -1, 3, 99, 100, MOST}) {
            Check.refuses("journal(" + i + ", 0) of 3", Check.INDEX, () -> x.journal(i, 0));
        }
        for (int what : new int[] {LEAST, -1, 7, 8, MOST}) {
            Check.refuses("journal(0, " + what + ")", Check.INDEX, () -> x.journal(0, what));
            Check.refuses("journal(2, " + what + ")", Check.INDEX, () -> x.journal(2, what));
        }
        Check.due("journal(0, 0)", x.journal(0, 0), 4);
        Check.due("journal(2, 6)", x.journal(2, 6), 3);
        numbered(x, 4, 120);
        Check.refuses("journal(100, 0) of 120", Check.INDEX, () -> x.journal(100, 0));
        Check.due("journal(99, 6) of 120", x.journal(99, 6), 120);
    }

    private static void replayBits() {
        Check.sentence("Whether entry i, drawn again from its place, reads as many bits");
        // 1 by 3 is 0 by '1' and by '011', and 1 by '00' and '0100'
        SampleDesk x = Desks.withBits("000 1");
        x.rewind(3);
        x.draw(2, 1, 3, 0);
        Check.holds("from its place", x.replay(0));
        x.bit(3, 0);
        x.bit(4, 1);
        x.bit(5, 1);
        Check.holds("the same answer by more bits", !x.replay(0));
        x.bit(3, 1);
        Check.holds("by its bit again", x.replay(0));
        SampleDesk y = Desks.withBits("0100");
        y.draw(2, 1, 3, 0);
        y.bit(1, 0);
        Check.holds("the same answer by fewer bits", !y.replay(0));
    }

    private static void replayAnswer() {
        Check.sentence("and gives the same answer");
        SampleDesk x = Desks.withBits("0");
        x.draw(1, 0, 256, 0);
        Check.holds("as drawn", x.replay(0));
        x.bit(38, 1);
        Check.holds("the last bit is another", !x.replay(0));
        x.bit(38, 0);
        x.bit(0, 1);
        Check.holds("the first bit is another, and the answer is so beyond an int", !x.replay(0));
        x.bit(0, 0);
        x.bit(39, 1);
        Check.holds("a bit behind it is another", x.replay(0));
    }

    private static void replayItems() {
        Check.sentence("the same answer and items");
        SampleDesk x = Desks.withBits("0");
        x.draw(9, 2, 0, 0);
        Check.holds("as drawn", x.replay(0));
        x.bit(0, 1);
        Check.holds("two items in another order", !x.replay(0));
        x.draw(9, 2, 0, 0);
        Check.holds("items of a later draw don't matter", !x.replay(0));
        x.bit(0, 0);
        Check.holds("but its own", x.replay(0));
        SampleDesk y = Desks.withBits("");
        y.draw(9, 0, 0, 0);
        y.draw(10, 0, 0, 0);
        y.draw(11, 0, 0, 0);
        for (int i = 0; i < 3; i++) {
            Check.holds("no items at all", y.replay(i));
        }
    }

    private static long sum(SampleDesk x, int n) {
        long sum = 0;
        for (int i = 0; i < n; i++) {
            sum += (i + 1L) * x.item(i);
        }
        return sum;
    }

    private static void setBits(SampleDesk x, String before, String after) {
        for (int i = 0; i < before.length(); i++) {
            if (before.charAt(i) != after.charAt(i)) {
                x.bit(i, after.charAt(i) - '0');
            }
        }
    }

    private static void replaySameSum() {
        Check.sentence("(their sum, each times one more than its index");
        // among the shuffles of four some have the same sum: they count as the same items
        int alike = 0;
        for (int s = 0; s < 32; s++) {
            String bits = Integer.toBinaryString(32 + s).substring(1);
            SampleDesk x = Desks.withBits("00000");
            SampleDesk y = Desks.withBits(bits);
            x.draw(9, 4, 0, 0);
            y.draw(9, 4, 0, 0);
            boolean same = y.count(2) == 5 && sum(y, 4) == sum(x, 4);
            setBits(x, "00000", bits);
            Check.same("replay of a shuffle with bits " + bits, x.replay(0), same);
            alike += same ? 1 : 0;
        }
        Check.holds("some others have the same sum: " + alike, alike > 1);
    }

    private static void replayOneMoreThanItsIndex() {
        Check.sentence("each times one more than its index");
        // SUBSET 5, 2: COINS of 2 by 5 (0.0110..), then 1 by 4, 1 by 3, 1 by 2 for 0 and 4, which have the sum 8
        SampleDesk x = Desks.withBits("00 01 1 1");
        x.draw(10, 5, 2, 0);
        Check.due("0 and 4", x.item(0) + 10 * x.item(1), 40);
        // 2 by 5, 2 by 4, 2 by 3 (0.1010..), 1 by 2 for 2 and 3, which have the sum 8 too
        setBits(x, "000111", "111000");
        Check.holds("2 and 3, with the same sum by as many bits", x.replay(0));
        // 2 by 5, 2 by 4 (0.1), 1 by 3, 1 by 2 for 1 and 4, which have the sum 9
        setBits(x, "111000", "100111");
        Check.holds("1 and 4, with another sum by as many bits", !x.replay(0));
        x.rewind(0);
        x.draw(10, 5, 2, 0);
        Check.due("1 and 4", x.item(0) + 10 * x.item(1), 41);
        Check.due("as many bits", x.count(2), 6);
    }

    /** The bits by which SHUFFLE n changes place q with swaps[q], for q from n - 1 down to 1. */
    private static String shuffleBits(int[] swaps) {
        StringBuilder bits = new StringBuilder();
        for (int i = swaps.length - 1; i >= 1; i--) {
            int width = 32 - Integer.numberOfLeadingZeros(i);
            bits.append(Integer.toBinaryString((1 << width) + swaps[i]).substring(1));
        }
        return bits.toString();
    }

    /** Two places that are d apart and change their items in a row in order lessen the sum by d squared. */
    private static void replayModulus() {
        Check.sentence("modulo 1000003)");
        int[] swaps = new int[256];
        Arrays.setAll(swaps, i -> i);
        String inOrder = shuffleBits(swaps);
        for (int i = 0; i < 61; i++) {
            swaps[i + 128] = i;
        }
        swaps[85] = 61;
        swaps[101] = 100;
        swaps[103] = 102;
        // 61 times 128 squared, 24 squared, and twice 1
        String oneShort = shuffleBits(swaps);
        swaps[105] = 104;
        String just = shuffleBits(swaps);
        swaps[107] = 106;
        String oneMore = shuffleBits(swaps);
        SampleDesk x = Desks.withBits(inOrder);
        x.draw(9, 256, 0, 0);
        Check.holds("as drawn", x.replay(0));
        setBits(x, inOrder, oneShort);
        Check.holds("a sum that is less by 1000002", !x.replay(0));
        setBits(x, oneShort, just);
        Check.holds("a sum that is less by 1000003", x.replay(0));
        setBits(x, just, oneMore);
        Check.holds("a sum that is less by 1000004", !x.replay(0));
    }

    private static void replayTables() {
        Check.sentence("with the tape and tables as they are (not, when a table is not built");
        SampleDesk x = Desks.table(0, 1, 2, 4);
        x.feed(0, 0, 0, 0);
        x.draw(0, 0, 0, 0);
        Check.holds("as drawn", x.replay(0));
        x.weight(0, 0, 1);
        Check.holds("a weight was told, though the same: it is not built", !x.replay(0));
        x.build(0, 0);
        Check.holds("built as it was", x.replay(0));
        x.build(0, 1);
        Check.holds("built with aliases, by other bits", !x.replay(0));
        x.weight(0, 2, 1);
        x.build(0, 0);
        Check.holds("built with other weights, another answer", !x.replay(0));
        SampleDesk y = Desks.table(0, 0, 3);
        y.draw(0, 0, 0, 0);
        y.weight(0, 1, 0);
        Check.holds("no weights any more, though no bit is needed", !y.replay(0));
    }

    private static void replayTapeEnds() {
        Check.sentence("or the tape ends)");
        SampleDesk x = Desks.endingWith("10");
        x.draw(1, 3, 0, 0);
        Check.holds("to the very end", x.replay(0));
        x.bit(127, 1);
        Check.holds("beyond the end", !x.replay(0));
        x.feed(-1, -1, -1, -1);
        Check.holds("with more bits it does not end, but reads more", !x.replay(0));
        x.bit(127, 0);
        Check.holds("the bit is back", x.replay(0));
        SampleDesk zero = Desks.endingWith("00");
        zero.draw(1, 3, 0, 0);
        zero.bit(126, 1);
        zero.bit(127, 1);
        Check.holds("beyond the end, with nothing decided by as many bits", !zero.replay(0));
        SampleDesk y = Desks.endingWith("");
        y.draw(2, 1, 1, 0);
        Check.holds("without a bit at the very end", y.replay(0));
    }

    private static void replayStory(SampleDesk x) {
        Desks.weigh(x, 1, 1, 2, 4);
        x.build(1, 1);
        x.feed(0x0f1e2d3c, 0x4b5a6978, 0x13579bdf, 0x2468ace0);
        x.draw(0, 1, 0, 0);
        x.draw(9, 4, 0, 0);
        x.draw(10, 3, 2, 0);
        x.draw(1, 9, 0, 0);
    }

    private static void replayChangesNothing() {
        Check.sentence("nothing is changed.");
        for (int i = 0; i < 4; i++) {
            int entry = i;
            Twins.answered("replay(" + i + ")", true, JournalEdgeTest::replayStory, x -> x.replay(entry));
        }
        Twins.answered("a replay that is another", false, x -> {
            replayStory(x);
            x.rewind(0);
            x.bit(4, 0);
            x.bit(5, 1);
        }, x -> x.replay(1));
        Twins.answered("a replay of a table that is not built", false, x -> {
            replayStory(x);
            x.weight(1, 9, 0);
        }, x -> x.replay(0));
        Twins.answered("a replay beyond the end", false, x -> {
            Desks.endWith(x, "10");
            x.draw(1, 3, 0, 0);
            x.bit(127, 1);
        }, x -> x.replay(0));
    }

    private static void noSuchReplay() {
        Check.sentence("IndexOutOfBoundsException, when there is none.");
        SampleDesk x = new SampleDesk();
        for (int i : new int[] {LEAST, -1, 0, 1, MOST}) {
            Check.refuses("replay(" + i + ") of none", Check.INDEX, () -> x.replay(i));
        }
        numbered(x, 1, 2);
        Check.refuses("replay(-1) of 2", Check.INDEX, () -> x.replay(-1));
        Check.refuses("replay(2) of 2", Check.INDEX, () -> x.replay(2));
        Check.holds("replay(0) of 2", x.replay(0));
        Check.holds("replay(1) of 2", x.replay(1));
        numbered(x, 3, 101);
        Check.holds("replay(0) of 101", x.replay(0));
        Check.holds("replay(99) of 101", x.replay(99));
        Check.refuses("replay(100) of 101", Check.INDEX, () -> x.replay(100));
    }

    private static void countTape() {
        Check.sentence("Bits on the tape (0)");
        SampleDesk x = new SampleDesk();
        Check.due("none", x.count(0), 0);
        x.feed(0, 0, 0, 0);
        Check.due("one feed", x.count(0), 128);
        x.draw(1, 16, 0, 0);
        Check.due("a draw takes none away", x.count(0), 128);
        Check.due("a full tape", Desks.full(0).count(0), 16384);
    }

    private static void countPlace() {
        Check.sentence("the place (1)");
        SampleDesk x = Desks.full(0);
        Check.due("at first", x.count(1), 0);
        x.draw(1, 16, 0, 0);
        Check.due("behind four bits", x.count(1), 4);
        x.rewind(16380);
        x.draw(1, 16, 0, 0);
        Check.due("at the end", x.count(1), 16384);
    }

    private static void countBits() {
        Check.sentence("bits read by the latest draw that threw nothing (2; 0 before)");
        SampleDesk x = new SampleDesk();
        Check.due("no draw", x.count(2), 0);
        x.feed(0, 0, 0, 0);
        Check.due("still no draw", x.count(2), 0);
        x.draw(1, 32, 0, 0);
        Check.due("five", x.count(2), 5);
        Check.refuses("no such kind", Check.ARGUMENT, () -> x.draw(14, 0, 0, 0));
        Check.refuses("no table", Check.STATE, () -> x.draw(0, 0, 0, 0));
        x.rewind(126);
        Check.refuses("the tape ends", Check.ENDED, () -> x.draw(1, 8, 0, 0));
        x.replay(0);
        Check.due("still five", x.count(2), 5);
        x.draw(2, 1, 1, 0);
        Check.due("a draw without a bit", x.count(2), 0);
        SampleDesk full = Desks.full(-1);
        full.draw(4, 1, 2, 16384);
        Check.due("a whole tape", full.count(2), 16384);
    }

    private static void countEntries() {
        Check.sentence("entries in the journal (3)");
        SampleDesk x = new SampleDesk();
        Check.due("none", x.count(3), 0);
        for (int n = 1; n <= 205; n++) {
            numbered(x, n, n);
            Check.due("behind draw " + n, x.count(3), Math.min(n, 100));
        }
    }

    private static void countDraws() {
        Check.sentence("draws in all (4)");
        SampleDesk x = new SampleDesk();
        Check.due("none", x.count(4), 0);
        for (int n = 1; n <= 205; n++) {
            numbered(x, n, n);
            Check.due("behind draw " + n, x.count(4), n);
        }
        x.replay(0);
        x.undecided(2, 1, 2, 0, 3);
        Check.due("a replay and a count of strings are none", x.count(4), 205);
    }

    private static void countNone() {
        Check.sentence("NONE for another what.");
        SampleDesk x = Desks.withBits("");
        x.draw(1, 2, 0, 0);
        Check.due("NONE", SampleDesk.NONE, -1);
        for (int what : new int[] {LEAST, -1, 5, 6, 256, MOST}) {
            Check.due("count(" + what + ")", x.count(what), -1);
        }
        int[] due = {128, 1, 1, 1, 1};
        for (int what = 0; what <= 4; what++) {
            Check.due("count(" + what + ")", x.count(what), due[what]);
        }
    }
}
