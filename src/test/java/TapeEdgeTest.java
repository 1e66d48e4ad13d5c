/** The edges of the tape and its place: promises 1 to 4, and the terms that tell how long a tape may be. */
public final class TapeEdgeTest {
    private static final int LEAST = Integer.MIN_VALUE;
    private static final int MOST = Integer.MAX_VALUE;

    public static void main(String[] args) {
        emptyTape();
        noWeights();
        noDraws();
        lastCall();
        orderOfBits();
        howMany();
        fullTape();
        allBitsOfAFullTape();
        bitAsItWas();
        bitFromNowOn();
        noSuchBit();
        neitherZeroNorOne();
        placeBefore();
        placeAtFirst();
        noSuchPlace();
        drawsToTheVeryEnd();
        drawsBeyondTheEnd();
        drawsOnAnEmptyTape();
        drawsAcrossFeeds();
        Check.end();
    }

    private static void emptyTape() {
        Check.sentence("An empty tape");
        SampleDesk x = new SampleDesk();
        Check.due("bits of a new tape", x.count(0), 0);
        Check.refuses("bit(0, 0)", Check.INDEX, () -> x.bit(0, 0));
        Check.refuses("rewind(1)", Check.INDEX, () -> x.rewind(1));
        Check.due("rewind(0)", x.rewind(0), 0);
        SampleDesk other = new SampleDesk();
        other.feed(1, 2, 3, 4);
        Check.due("a tape is no other object's", x.count(0), 0);
    }

    private static void noWeights() {
        Check.sentence("no weights");
        SampleDesk x = new SampleDesk();
        for (int table = 0; table < 8; table++) {
            for (int i = 0; i < 64; i++) {
                Check.due("weight " + i + " of table " + table, x.weight(table, i, 0), 0);
            }
        }
        SampleDesk y = new SampleDesk();
        for (int table = 0; table < 8; table++) {
            int t = table;
            Check.refuses("build(" + t + ", 0)", Check.STATE, () -> y.build(t, 0));
            Check.refuses("build(" + t + ", 1)", Check.STATE, () -> y.build(t, 1));
            Check.refuses("alias(" + t + ", 0, 0)", Check.STATE, () -> y.alias(t, 0, 0));
            Check.refuses("draw from table " + t, Check.STATE, () -> y.draw(0, t, 0, 0));
        }
    }

    private static void noDraws() {
        Check.sentence("no draws");
        SampleDesk x = new SampleDesk();
        Check.due("bits read", x.count(2), 0);
        Check.due("entries", x.count(3), 0);
        Check.due("draws in all", x.count(4), 0);
        Check.refuses("item(0)", Check.INDEX, () -> x.item(0));
        Check.refuses("journal(0, 0)", Check.INDEX, () -> x.journal(0, 0));
        Check.refuses("replay(0)", Check.INDEX, () -> x.replay(0));
    }

    private static void lastCall() {
        Check.sentence("An object is used for at most 512 calls after it has been made");
        SampleDesk x = new SampleDesk();
        for (int i = 0; i < 8; i++) {
            x.feed(0x0f0f0f0f, 0x0f0f0f0f, 0x0f0f0f0f, 0x0f0f0f0f);
        }
        for (int call = 9; call <= 511; call++) {
            x.draw(1, 4, 0, 0);
        }
        // 503 draws of two bits have read 1006, which is 6 modulo 8
        Check.due("the 512th call, a draw", x.draw(1, 4, 0, 0), 3);
        SampleDesk y = new SampleDesk();
        for (int call = 1; call <= 511; call++) {
            y.draw(2, 1, 1, 0);
        }
        Check.due("the 512th call, a count", y.count(4), 511);
    }

    private static void orderOfBits() {
        Check.sentence("128 bits come behind the tape, the highest of a first");
        int[] ones = {0, 31, 32, 63, 64, 95, 96, 127};
        for (int at : ones) {
            int[] w = new int[4];
            w[at / 32] = 1 << (31 - at % 32);
            SampleDesk x = new SampleDesk();
            x.feed(-1, -1, -1, -1);
            x.feed(w[0], w[1], w[2], w[3]);
            x.rewind(128);
            for (int i = 0; i < 128; i++) {
                Check.due("bit " + i + " of a feed with bit " + at + " alone", x.draw(1, 2, 0, 0), i == at ? 1 : 0);
            }
        }
    }

    private static void howMany() {
        Check.sentence("how many it has");
        SampleDesk x = new SampleDesk();
        for (int n = 1; n <= 128; n++) {
            Check.due("feed " + n, x.feed(n, -n, 0, -1), 128 * n);
            Check.due("the place", x.count(1), 0);
        }
    }

    private static void fullTape() {
        Check.sentence("IllegalStateException, when there would be more than 16384.");
        SampleDesk x = new SampleDesk();
        for (int n = 1; n <= 127; n++) {
            x.feed(0, 0, 0, 0);
        }
        Check.due("the feed to just 16384", x.feed(0, 0, 0, 1), 16384);
        Check.refuses("one more feed", Check.STATE, () -> x.feed(0, 0, 0, 0));
        Check.refuses("and one more", Check.STATE, () -> x.feed(0, 0, 0, 0));
        Check.due("the bits are as many", x.count(0), 16384);
        x.rewind(16383);
        Check.due("the last bit", x.draw(1, 2, 0, 0), 1);
        Check.refuses("with the place at the end, too", Check.STATE, () -> x.feed(0, 0, 0, 0));
        Check.refuses("a draw beyond a full tape", Check.ENDED, () -> x.draw(1, 2, 0, 0));
    }

    private static void allBitsOfAFullTape() {
        Check.sentence("THE TAPE has at most 16384 bits");
        SampleDesk x = new SampleDesk();
        for (int n = 0; n < 128; n++) {
            x.feed(4 * n, 4 * n + 1, 4 * n + 2, 4 * n + 3);
        }
        // 32 bits at a time, from every sixth word and the last one
        for (int word = 1; word < 512; word += 6) {
            x.rewind(32 * word);
            Check.due("word " + word, x.draw(1, 0, 2, 0), word);
        }
        x.rewind(16352);
        Check.due("the last word", x.draw(1, 0, 2, 0), 511);
        SampleDesk ones = Desks.full(-1);
        Check.due("one draw that reads the whole tape", ones.draw(4, 1, 2, 16384), 16384);
        Check.due("its bits", ones.count(2), 16384);
        Check.due("the place", ones.count(1), 16384);
    }

    private static void bitAsItWas() {
        Check.sentence("what it was.");
        SampleDesk x = Desks.withBits("01");
        Check.due("0 made 0", x.bit(0, 0), 0);
        Check.due("0 made 1", x.bit(0, 1), 0);
        Check.due("1 made 1", x.bit(0, 1), 1);
        Check.due("1 made 0", x.bit(0, 0), 1);
        Check.due("0 again", x.bit(0, 0), 0);
        Check.due("its neighbour", x.bit(1, 1), 1);
    }

    private static void bitFromNowOn() {
        Check.sentence("A bit of the tape is another one from now on");
        for (int at : new int[] {0, 31, 32, 63, 64, 127}) {
            for (int now = 0; now <= 1; now++) {
                SampleDesk x = Desks.withBits((now == 0 ? "1" : "0").repeat(128));
                x.bit(at, now);
                for (int i = 0; i < 128; i++) {
                    Check.due("bit " + i + " with " + at + " made " + now, x.draw(1, 2, 0, 0), i == at ? now : 1 - now);
                }
            }
        }
        SampleDesk y = Desks.withBits("");
        y.draw(1, 16, 0, 0);
        y.bit(3, 1);
        Check.due("a bit before the place: the place stays", y.count(1), 4);
        Check.due("and the size", y.count(0), 128);
        y.rewind(0);
        Check.due("and the bit is read when it is gone over again", y.draw(1, 16, 0, 0), 1);
    }

    private static void noSuchBit() {
        Check.sentence("IndexOutOfBoundsException, when there is no such bit");
        SampleDesk none = new SampleDesk();
        Check.refuses("bit(0, 1) of no bits", Check.INDEX, () -> none.bit(0, 1));
        SampleDesk x = Desks.withBits("");
        SampleDesk full = Desks.full(-1);
        for (int at : new int[] {LEAST, -1, 128, MOST}) {
            Check.refuses("bit(" + at + ", 0) of 128", Check.INDEX, () -> x.bit(at, 0));
        }
        for (int at : new int[] {LEAST, -1, 16384, MOST}) {
            Check.refuses("bit(" + at + ", 0) of 16384", Check.INDEX, () -> full.bit(at, 0));
        }
        Check.due("bit(0, 1) of 128", x.bit(0, 1), 0);
        Check.due("bit(127, 1) of 128", x.bit(127, 1), 0);
        Check.due("bit(0, 0) of 16384", full.bit(0, 0), 1);
        Check.due("bit(16383, 0) of 16384", full.bit(16383, 0), 1);
        x.feed(0, 0, 0, 0);
        Check.due("bit(128, 1) once it was fed", x.bit(128, 1), 0);
    }

    private static void neitherZeroNorOne() {
        Check.sentence("IllegalArgumentException, when it is neither 0 nor 1.");
        SampleDesk x = Desks.withBits("1");
        for (int bit : new int[] {LEAST, -1, 2, 3, MOST}) {
            Check.refuses("bit(0, " + bit + ")", Check.ARGUMENT, () -> x.bit(0, bit));
            Check.refuses("bit(127, " + bit + ")", Check.ARGUMENT, () -> x.bit(127, bit));
        }
        Check.due("bit(0, 0) is taken", x.bit(0, 0), 1);
        Check.due("bit(0, 1) is taken", x.bit(0, 1), 0);
    }

    private static void placeBefore() {
        Check.sentence("The place is another one: the one before.");
        SampleDesk x = Desks.withBits("");
        Check.due("rewind(128)", x.rewind(128), 0);
        Check.due("rewind(128) again", x.rewind(128), 128);
        Check.due("rewind(0)", x.rewind(0), 128);
        x.draw(1, 8, 0, 0);
        Check.due("rewind(127) behind a draw of 3 bits", x.rewind(127), 3);
        Check.due("the place", x.count(1), 127);
    }

    private static void placeAtFirst() {
        Check.sentence("a PLACE from where the next draw reads, 0 at first");
        SampleDesk x = new SampleDesk();
        Check.due("the place of a new object", x.count(1), 0);
        x.feed(0x80000000, 0, 0, 1);
        Check.due("the first bit", x.draw(1, 2, 0, 0), 1);
        x.rewind(127);
        Check.due("the last bit", x.draw(1, 2, 0, 0), 1);
        Check.due("the place behind it", x.count(1), 128);
    }

    private static void noSuchPlace() {
        Check.sentence("IndexOutOfBoundsException, when it is below 0 or beyond the end.");
        SampleDesk none = new SampleDesk();
        Check.due("rewind(0) of no bits", none.rewind(0), 0);
        Check.refuses("rewind(1) of no bits", Check.INDEX, () -> none.rewind(1));
        Check.refuses("rewind(-1) of no bits", Check.INDEX, () -> none.rewind(-1));
        SampleDesk x = Desks.withBits("");
        x.rewind(5);
        for (int at : new int[] {LEAST, -1, 129, MOST}) {
            Check.refuses("rewind(" + at + ") of 128", Check.INDEX, () -> x.rewind(at));
        }
        Check.due("the place is as it was", x.rewind(128), 5);
        SampleDesk full = Desks.full(0);
        Check.refuses("rewind(16385)", Check.INDEX, () -> full.rewind(16385));
        Check.due("rewind(16384)", full.rewind(16384), 0);
        Check.due("rewind(16383)", full.rewind(16383), 16384);
    }

    private record Drawn(int kind, int a, int b, int c, String bits, long answer) {
        String told() {
            return Desks.told(kind, a, b, c);
        }
    }

    /** One draw of each kind (tables 0 and 1 have weights 1, 2, 4), with all bits that it reads. */
    private static final Drawn[] EACH_KIND = {
        new Drawn(0, 0, 0, 0, "110", 0), new Drawn(0, 1, 0, 0, "0000", 0), new Drawn(1, 3, 0, 0, "1101", 1),
        new Drawn(2, 1, 3, 0, "0100", 1), new Drawn(3, 3, 1, 3, "0011", 1), new Drawn(4, 1, 2, 3, "111", 3),
        new Drawn(5, 1, 2, 0, "0010", 2), new Drawn(6, 1, 2, 3, "10", 1), new Drawn(7, 1, 1, 0, "11101", 1),
        new Drawn(8, 3, 2, 0, "011", 1), new Drawn(9, 3, 0, 0, "000", 3), new Drawn(10, 4, 2, 0, "010", 2),
        new Drawn(11, 3, 0, 0, "010", 6), new Drawn(12, 3, 0, 0, "010", 3), new Drawn(13, 4, 2, 0, "01001", 4),
    };

    private static void bothTables(SampleDesk x) {
        Desks.weigh(x, 0, 1, 2, 4);
        Desks.weigh(x, 1, 1, 2, 4);
        x.build(0, 0);
        x.build(1, 1);
        x.draw(9, 1, 0, 0);
    }

    private static void drawsToTheVeryEnd() {
        Check.sentence("each draw reads just as much of the tape as it needs");
        for (Drawn d : EACH_KIND) {
            SampleDesk x = new SampleDesk();
            bothTables(x);
            Desks.endWith(x, d.bits);
            Check.same(d.told() + " from the last bits", Check.outcome(() -> x.draw(d.kind, d.a, d.b, d.c)),
                    String.valueOf(d.answer));
            Check.due(d.told() + ": the place at the end", x.count(1), 128);
            Check.due(d.told() + ": bits", x.count(2), d.bits.length());
        }
    }

    private static void drawsBeyondTheEnd() {
        Check.sentence("A draw that would read beyond the end throws NoSuchElementException, and nothing is changed.");
        for (Drawn d : EACH_KIND) {
            for (int bits = 0; bits < d.bits.length(); bits++) {
                String left = d.bits.substring(0, bits);
                Twins.refused(d.told() + " from '" + left + "' at the end", Check.ENDED, x -> {
                    bothTables(x);
                    Desks.endWith(x, left);
                }, x -> x.draw(d.kind, d.a, d.b, d.c));
            }
        }
    }

    private static void drawsOnAnEmptyTape() {
        Check.sentence("NoSuchElementException, when the tape ends first.");
        for (Drawn d : EACH_KIND) {
            SampleDesk x = new SampleDesk();
            bothTables(x);
            Check.refuses(d.told() + " of no bits", Check.ENDED, () -> x.draw(d.kind, d.a, d.b, d.c));
        }
        SampleDesk y = new SampleDesk();
        Check.due("a sure coin needs no bit", y.draw(2, 1, 1, 0), 1);
        Check.due("a shuffle of one neither", y.draw(9, 1, 0, 0), 1);
        Check.due("nor a path of one step up", y.draw(11, 1, 0, 0), 2);
        SampleDesk full = Desks.full(0);
        full.rewind(16384);
        Check.due("nor do they at the end of a full tape", full.draw(2, 0, 1, 0), 0);
    }

    private static void drawsAcrossFeeds() {
        Check.sentence("128 bits come behind the tape");
        for (Drawn d : EACH_KIND) {
            SampleDesk x = new SampleDesk();
            bothTables(x);
            Desks.endWith(x, d.bits.substring(0, 1));
            Check.refuses(d.told() + " before the feed", Check.ENDED, () -> x.draw(d.kind, d.a, d.b, d.c));
            x.feed(Integer.parseInt(d.bits.substring(1), 2) << (33 - d.bits.length()), 0, 0, 0);
            Check.same(d.told() + " from the old end into the new bits",
                    Check.outcome(() -> x.draw(d.kind, d.a, d.b, d.c)), String.valueOf(d.answer));
            Check.due(d.told() + ": the place", x.count(1), 127 + d.bits.length());
        }
    }
}
