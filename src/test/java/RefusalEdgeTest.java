import java.util.function.Consumer;

/** Every exception of every call: which one comes first, and that a refused call changes nothing. */
public final class RefusalEdgeTest {
    private static final int LEAST = Integer.MIN_VALUE;
    private static final int MOST = Integer.MAX_VALUE;

    public static void main(String[] args) {
        firstOneTold();
        firstOneOfDraw();
        firstOneOfStrings();
        ofANewObject();
        ofTape();
        ofTables();
        ofDraws();
        ofWhatIsKept();
        ofAFullTape();
        stringsChangeNothing();
        Check.end();
    }

    /** Tables 0 (a tree), 1 (aliases) and 2 (not built), 104 draws so that the journal is full, and four items. */
    private static void busyDesk(SampleDesk x) {
        x.feed(0x12345678, 0x9abcdef0, 0x0f1e2d3c, 0x4b5a6978);
        x.feed(0x31415926, 0x27182818, 0x16180339, 0x14142135);
        Desks.weigh(x, 0, 1, 2, 4);
        Desks.weigh(x, 1, 3, 0, 3, 0, 4);
        Desks.weigh(x, 2, 5, 6);
        x.build(0, 0);
        x.build(1, 1);
        for (int n = 1; n <= 100; n++) {
            x.draw(4, 0, 1, n);
        }
        x.draw(0, 0, 0, 0);
        x.draw(0, 1, 0, 0);
        x.draw(9, 4, 0, 0);
        x.draw(1, 100, 0, 0);
        x.rewind(250);
    }

    private static void fullDesk(SampleDesk x) {
        Desks.feedToTheBrim(x, 0x5a3c0ff1);
        x.draw(9, 5, 0, 0);
        x.rewind(16383);
    }

    private static void firstOneTold() {
        Check.sentence("Of several exceptions the first one told is thrown.");
        SampleDesk x = Desks.table(0, 1, 2);
        x.feed(0, 0, 0, 0);
        Check.refuses("bit: no such bit, no bit at all", Check.INDEX, () -> x.bit(128, 2));
        Check.refuses("bit: below 0, no bit at all", Check.INDEX, () -> x.bit(-1, -1));
        Check.refuses("weight: no table, below 0", Check.INDEX, () -> x.weight(8, 0, -1));
        Check.refuses("weight: no number, below 0", Check.INDEX, () -> x.weight(0, 64, -1));
        Check.refuses("build: no table, no method", Check.INDEX, () -> x.build(8, 2));
        Check.refuses("build: no table, no method, below 0", Check.INDEX, () -> x.build(-1, -1));
        Check.refuses("build: no method, no weights", Check.ARGUMENT, () -> x.build(3, 2));
        Check.refuses("build: no weights", Check.STATE, () -> x.build(3, 1));
        Check.refuses("alias: no table, never built", Check.INDEX, () -> x.alias(8, 0, 0));
        Check.refuses("alias: a tree, no number, no what", Check.STATE, () -> x.alias(0, 64, 2));
    }

    private static void firstOneOfDraw() {
        Check.sentence("IllegalArgumentException, when there is no such kind, or a number is none that may be; "
                + "IllegalStateException, when a table is not built; NoSuchElementException, when the tape ends "
                + "first.");
        SampleDesk x = new SampleDesk();
        Check.refuses("no kind, no tape", Check.ARGUMENT, () -> x.draw(14, 1, 1, 1));
        Check.refuses("no number, no tape", Check.ARGUMENT, () -> x.draw(2, 3, 2, 0));
        Check.refuses("no table, not built, no tape", Check.ARGUMENT, () -> x.draw(0, 8, 0, 0));
        Check.refuses("not built, no tape", Check.STATE, () -> x.draw(0, 7, 0, 0));
        Desks.weigh(x, 7, 1, 1);
        Check.refuses("weights, not built, no tape", Check.STATE, () -> x.draw(0, 7, 0, 0));
        x.build(7, 0);
        Check.refuses("built, no tape", Check.ENDED, () -> x.draw(0, 7, 0, 0));
        x.feed(0, 0, 0, 0);
        Check.due("built, with a tape", x.draw(0, 7, 0, 0), 0);
    }

    private static void firstOneOfStrings() {
        Check.sentence("IllegalArgumentException and IllegalStateException as for draw(), also for kinds above 8, or "
                + "another length.");
        SampleDesk x = new SampleDesk();
        for (int length : new int[] {LEAST, -1, 13, MOST}) {
            Check.refuses("decided: not built, no length", Check.ARGUMENT, () -> x.decided(0, 0, 0, 0, length, 0));
            Check.refuses("undecided: not built, no length", Check.ARGUMENT, () -> x.undecided(0, 0, 0, 0, length));
        }
        for (int length : new int[] {0, 12}) {
            Check.refuses("decided: not built", Check.STATE, () -> x.decided(0, 0, 0, 0, length, 0));
            Check.refuses("undecided: not built", Check.STATE, () -> x.undecided(0, 0, 0, 0, length));
        }
    }

    private static void index(Consumer<SampleDesk> story, String what, Twins.Call call) {
        Twins.refused(what, Check.INDEX, story, call);
    }

    private static void argument(Consumer<SampleDesk> story, String what, Twins.Call call) {
        Twins.refused(what, Check.ARGUMENT, story, call);
    }

    private static void state(Consumer<SampleDesk> story, String what, Twins.Call call) {
        Twins.refused(what, Check.STATE, story, call);
    }

    private static void ofANewObject() {
        Check.sentence("An empty tape, no weights, no draws.");
        Consumer<SampleDesk> story = x -> { };
        index(story, "bit(0, 0)", x -> x.bit(0, 0));
        index(story, "rewind(1)", x -> x.rewind(1));
        state(story, "build(0, 0)", x -> x.build(0, 0));
        state(story, "build(7, 1)", x -> x.build(7, 1));
        state(story, "alias(0, 0, 0)", x -> x.alias(0, 0, 0));
        state(story, "draw(0, 0, 0, 0)", x -> x.draw(0, 0, 0, 0));
        Twins.refused("draw(2, 1, 2, 0)", Check.ENDED, story, x -> x.draw(2, 1, 2, 0));
        Twins.refused("draw(9, 256, 0, 0)", Check.ENDED, story, x -> x.draw(9, 256, 0, 0));
        index(story, "item(0)", x -> x.item(0));
        state(story, "decided(0, 0, ..)", x -> x.decided(0, 0, 0, 0, 3, 0));
        state(story, "undecided(0, 0, ..)", x -> x.undecided(0, 0, 0, 0, 3));
        index(story, "journal(0, 0)", x -> x.journal(0, 0));
        index(story, "replay(0)", x -> x.replay(0));
    }

    private static void ofTape() {
        Check.sentence("IndexOutOfBoundsException, when it is below 0 or beyond the end.");
        Consumer<SampleDesk> story = RefusalEdgeTest::busyDesk;
        index(story, "bit(-1, 1)", x -> x.bit(-1, 1));
        index(story, "bit(256, 1)", x -> x.bit(256, 1));
        index(story, "bit(MOST, 0)", x -> x.bit(MOST, 0));
        argument(story, "bit(0, 2)", x -> x.bit(0, 2));
        argument(story, "bit(255, -1)", x -> x.bit(255, -1));
        index(story, "rewind(-1)", x -> x.rewind(-1));
        index(story, "rewind(257)", x -> x.rewind(257));
    }

    private static void ofTables() {
        Check.sentence("IndexOutOfBoundsException, when there is no such table");
        Consumer<SampleDesk> story = RefusalEdgeTest::busyDesk;
        index(story, "weight(-1, 0, 1)", x -> x.weight(-1, 0, 1));
        index(story, "weight(8, 0, 1)", x -> x.weight(8, 0, 1));
        index(story, "weight(0, -1, 1)", x -> x.weight(0, -1, 1));
        index(story, "weight(1, 64, 1)", x -> x.weight(1, 64, 1));
        argument(story, "weight(0, 0, -1)", x -> x.weight(0, 0, -1));
        argument(story, "weight(1, 63, LEAST)", x -> x.weight(1, 63, LEAST));
        index(story, "build(-1, 0)", x -> x.build(-1, 0));
        index(story, "build(8, 1)", x -> x.build(8, 1));
        argument(story, "build(0, 2)", x -> x.build(0, 2));
        argument(story, "build(1, -1)", x -> x.build(1, -1));
        argument(story, "build(2, 2)", x -> x.build(2, 2));
        state(story, "build(3, 0)", x -> x.build(3, 0));
        state(story, "build(3, 1)", x -> x.build(3, 1));
        index(story, "alias(8, 0, 0)", x -> x.alias(8, 0, 0));
        index(story, "alias(1, 5, 0)", x -> x.alias(1, 5, 0));
        index(story, "alias(1, 0, 2)", x -> x.alias(1, 0, 2));
        state(story, "alias(0, 0, 0)", x -> x.alias(0, 0, 0));
        state(story, "alias(2, 0, 0)", x -> x.alias(2, 0, 0));
    }

    private static void ofDraws() {
        Check.sentence("IllegalArgumentException, when there is no such kind, or a number is none that may be");
        Consumer<SampleDesk> story = RefusalEdgeTest::busyDesk;
        int[][] wrong = {
            {-1, 1, 1, 1}, {14, 1, 1, 1}, {0, 8, 0, 0}, {1, 0, 0, 0}, {2, 3, 2, 0}, {3, 1001, 1, 2}, {4, 1, 2, 100001},
            {5, 65, 1, 0}, {6, 1, 1, 3}, {7, 0, 1, 0}, {8, 1001, 1, 0}, {9, 257, 0, 0}, {10, 4, 5, 0}, {11, 129, 0, 0},
            {12, 129, 0, 0}, {13, 7, 2, 0},
        };
        for (int[] w : wrong) {
            argument(story, Desks.told(w[0], w[1], w[2], w[3]), x -> x.draw(w[0], w[1], w[2], w[3]));
        }
        state(story, "draw(0, 2, 0, 0)", x -> x.draw(0, 2, 0, 0));
        state(story, "draw(0, 3, 0, 0)", x -> x.draw(0, 3, 0, 0));
        // six bits are left
        Twins.refused("draw(1, 100, 0, 0)", Check.ENDED, story, x -> x.draw(1, 100, 0, 0));
        Twins.refused("draw(9, 50, 0, 0)", Check.ENDED, story, x -> x.draw(9, 50, 0, 0));
        Twins.refused("draw(10, 256, 128, 0)", Check.ENDED, story, x -> x.draw(10, 256, 128, 0));
        Twins.refused("draw(12, 128, 0, 0)", Check.ENDED, story, x -> x.draw(12, 128, 0, 0));
    }

    private static void ofWhatIsKept() {
        Check.sentence("IndexOutOfBoundsException, when there is none, or for another what.");
        Consumer<SampleDesk> story = RefusalEdgeTest::busyDesk;
        index(story, "item(-1)", x -> x.item(-1));
        index(story, "item(4)", x -> x.item(4));
        index(story, "journal(-1, 0)", x -> x.journal(-1, 0));
        index(story, "journal(100, 0)", x -> x.journal(100, 0));
        index(story, "journal(0, 7)", x -> x.journal(0, 7));
        index(story, "replay(-1)", x -> x.replay(-1));
        index(story, "replay(100)", x -> x.replay(100));
        Twins.answered("count(5)", -1, story, x -> x.count(5));
    }

    private static void ofAFullTape() {
        Check.sentence("IllegalStateException, when there would be more than 16384.");
        Consumer<SampleDesk> story = RefusalEdgeTest::fullDesk;
        state(story, "feed", x -> x.feed(-1, -1, -1, -1));
        index(story, "bit(16384, 1)", x -> x.bit(16384, 1));
        index(story, "rewind(16385)", x -> x.rewind(16385));
        Twins.refused("draw(1, 4, 0, 0)", Check.ENDED, story, x -> x.draw(1, 4, 0, 0));
    }

    private static void stringsChangeNothing() {
        Check.sentence("As for decided().");
        Consumer<SampleDesk> story = RefusalEdgeTest::busyDesk;
        argument(story, "decided of length 13", x -> x.decided(2, 1, 2, 0, 13, 0));
        argument(story, "decided of kind 9", x -> x.decided(9, 4, 0, 0, 3, 0));
        state(story, "decided of a table", x -> x.decided(0, 2, 0, 0, 3, 0));
        argument(story, "undecided of length -1", x -> x.undecided(2, 1, 2, 0, -1));
        argument(story, "undecided of kind 13", x -> x.undecided(13, 4, 2, 0, 3));
        state(story, "undecided of a table", x -> x.undecided(0, 3, 0, 0, 3));
        // nor do those that answer
        Twins.answered("decided of a tree", 9, story, x -> x.decided(0, 0, 0, 0, 4, 2));
        Twins.answered("undecided of a tree", 1, story, x -> x.undecided(0, 0, 0, 0, 4));
        Twins.answered("undecided of aliases", 1, story, x -> x.undecided(0, 1, 0, 0, 0));
        Twins.answered("decided of a bell", 1, story, x -> x.decided(7, 3, 1, 0, 6, -2));
    }
}
