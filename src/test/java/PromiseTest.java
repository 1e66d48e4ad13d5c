/** Promise by promise: ordinary inputs, with answers worked out by hand. The edges have tests of their own. */
public final class PromiseTest {
    public static void main(String[] args) {
        newObject();
        feed();
        bit();
        rewind();
        weight();
        build();
        alias();
        drawTables();
        drawNumbers();
        drawCounts();
        drawPoissonAndBell();
        drawExponentialCoins();
        drawRows();
        item();
        decided();
        undecided();
        journal();
        replay();
        count();
        Check.end();
    }

    private static void newObject() {
        SampleDesk x = new SampleDesk();
        for (int what = 0; what <= 4; what++) {
            Check.due("new: count(" + what + ")", x.count(what), 0);
        }
        SampleDesk other = new SampleDesk();
        other.feed(-1, -1, -1, -1);
        other.weight(0, 0, 3);
        Check.due("objects share nothing: the tape", x.count(0), 0);
        Check.due("objects share nothing: the weights", x.weight(0, 0, 0), 0);
    }

    private static void feed() {
        SampleDesk x = new SampleDesk();
        Check.due("feed", x.feed(0x80000001, 0, 0x40000000, 1), 128);
        for (int i = 0; i < 128; i++) {
            Check.due("bit " + i + " fed", x.draw(1, 2, 0, 0), i == 0 || i == 31 || i == 65 || i == 127 ? 1 : 0);
        }
        Check.due("feed leaves the place", x.feed(-1, -1, -1, -1), 256);
        Check.due("the place", x.count(1), 128);
        Check.due("the bits fed later come behind", x.draw(1, 2, 0, 0), 1);
    }

    private static void bit() {
        SampleDesk x = new SampleDesk();
        x.feed(0, 0x00ff0000, 0, 0);
        Check.due("bit(40, 0)", x.bit(40, 0), 1);
        Check.due("bit(40, 1)", x.bit(40, 1), 0);
        Check.due("bit(39, 1): a neighbour", x.bit(39, 1), 0);
        Check.due("bits leave the place", x.count(1), 0);
        Check.due("bits leave the size", x.count(0), 128);
        x.rewind(36);
        Check.due("the bits as they are now", x.draw(1, 256, 0, 0), 0x1f);
    }

    private static void rewind() {
        SampleDesk x = new SampleDesk();
        x.feed(0, 0, 0x12340000, 0);
        Check.due("rewind(64)", x.rewind(64), 0);
        Check.due("16 bits", x.draw(1, 65536, 0, 0), 0x1234);
        Check.due("rewind(68)", x.rewind(68), 80);
        Check.due("8 bits", x.draw(1, 256, 0, 0), 0x23);
        Check.due("rewind(68) again", x.rewind(68), 76);
    }

    private static void weight() {
        SampleDesk x = new SampleDesk();
        Check.due("weight", x.weight(5, 20, 7), 0);
        Check.due("weight again", x.weight(5, 20, 9), 7);
        Check.due("another table", x.weight(6, 20, 1), 0);
        Check.due("another number", x.weight(5, 21, 1), 0);
        x.build(5, 0);
        x.build(6, 0);
        x.weight(5, 20, 9);
        Check.refuses("it is not built then", Check.STATE, () -> x.draw(0, 5, 0, 0));
        Check.due("the other one is", x.draw(0, 6, 0, 0), 20);
    }

    private static void build() {
        SampleDesk x = new SampleDesk();
        Desks.weigh(x, 3, 10, 20, 0, 30);
        Check.due("build(3, 0)", x.build(3, 0), 60);
        Check.refuses("a tree has no aliases", Check.STATE, () -> x.alias(3, 0, 1));
        Check.due("build(3, 1)", x.build(3, 1), 60);
        Check.due("an alias", x.alias(3, 0, 1), 1);
        Check.due("build(3, 0) again", x.build(3, 0), 60);
    }

    private static void alias() {
        // S 10, shares 4, 8, 12, 16: 0 takes from 2, which is small then; 1 takes from 3, and so does 2
        SampleDesk x = Desks.table(1, 1, 2, 3, 4);
        long[] limits = {4, 8, 6, 10};
        long[] aliases = {2, 3, 3, 3};
        for (int i = 0; i < 4; i++) {
            Check.due("limit of " + i, x.alias(0, i, 0), limits[i]);
            Check.due("alias of " + i, x.alias(0, i, 1), aliases[i]);
        }
    }

    private static void drawTables() {
        Desks.drawsFromTable("0", 0, 2, 1, 2, 4);
        Desks.drawsFromTable("10", 0, 1, 1, 2, 4);
        Desks.drawsFromTable("110", 0, 0, 1, 2, 4);
        Desks.drawsFromTable("1110", 0, 2, 1, 2, 4);
        Desks.drawsFromTable("111110", 0, 0, 1, 2, 4);
        Desks.drawsFromTable("", 0, 1, 0, 7, 0);
        // thirds: both bits of '00', '01', '10' find a leaf, '11' begins anew
        Desks.drawsFromTable("00", 0, 0, 1, 1, 1);
        Desks.drawsFromTable("01", 0, 1, 1, 1, 1);
        Desks.drawsFromTable("10", 0, 2, 1, 1, 1);
        Desks.drawsFromTable("1101", 0, 1, 1, 1, 1);
        // aliases: limits 3, 6, 7 by 7 (3/7 is 0.011011.., 6/7 is 0.110110..), all with alias 2
        Desks.drawsFromTable("0000", 1, 0, 1, 2, 4);
        Desks.drawsFromTable("001", 1, 2, 1, 2, 4);
        Desks.drawsFromTable("010", 1, 1, 1, 2, 4);
        Desks.drawsFromTable("01111", 1, 2, 1, 2, 4);
        Desks.drawsFromTable("10", 1, 2, 1, 2, 4);
        Desks.drawsFromTable("1110", 1, 2, 1, 2, 4);
        Desks.drawsFromTable("", 1, 0, 7);
    }

    private static void drawNumbers() {
        Desks.draws("1", 1, 2, 0, 0, 1);
        Desks.draws("10", 1, 3, 0, 0, 2);
        Desks.draws("11 01", 1, 3, 0, 0, 1);
        Desks.draws("1110", 1, 5, 0, 0, 4);
        Desks.draws("1111 011", 1, 5, 0, 0, 3);
        Desks.draws("1" + "0".repeat(30), 1, 0, 1, 0, 1L << 30);
        Desks.draws("0", 2, 1, 2, 0, 1);
        Desks.draws("1", 2, 1, 2, 0, 0);
        Desks.draws("1", 2, 1, 3, 0, 0);
        Desks.draws("00", 2, 1, 3, 0, 1);
        Desks.draws("0100", 2, 1, 3, 0, 1);
        Desks.draws("10", 2, 3, 4, -9, 1);
    }

    private static void drawCounts() {
        Desks.draws("0 1 0 0", 3, 4, 1, 2, 3);
        Desks.draws("00 1 1", 3, 3, 1, 3, 1);
        Desks.draws("0", 4, 1, 2, 9, 0);
        Desks.draws("1 1 0", 4, 1, 2, 9, 2);
        Desks.draws("1 1 1", 4, 1, 2, 3, 3);
        // a 1, b 2: 1 by 3 is 0 by '1', then 1 by 2 is 1 by '0', the last one is sure
        Desks.draws("1 0", 6, 1, 2, 3, 1);
        // a 2, b 1: 2 by 3 (0.1010..) is 1 by '0', then 1 by 2 is 0 by '1', then a alone is left
        Desks.draws("0 1", 6, 2, 1, 3, 2);
        Desks.draws("0 1", 6, 2, 1, 2, 1);
    }

    private static void drawPoissonAndBell() {
        // 1 by 1: t is 2, coins of 1 by 2; three ones: UNIFORM 2, then UNIFORM 3
        Desks.draws("01 1", 5, 1, 1, 0, 1);
        Desks.draws("001 0 01", 5, 1, 1, 0, 3);
        Desks.draws("0001 0 00 1", 5, 1, 1, 0, 3);
        Desks.draws("0001 0 01 1 1", 5, 1, 1, 0, 0);
        // 2 by 3: t is 2 (rounded up), coins of 2 by 6
        Desks.draws("1 1", 5, 2, 3, 0, 0);
        Desks.draws("00 1 1", 5, 2, 3, 0, 1);
        // variance 1 by 1: t is 2, u by UNIFORM 2, coin of u by 2, v, sign, coin of (2 * y - 1)^2 by 8
        Desks.draws("0 1 0 1", 7, 1, 1, 0, 0);
        Desks.draws("1 1 1 0 1", 7, 1, 1, 0, 1);
        Desks.draws("1 1 1 1 1", 7, 1, 1, 0, -1);
        // y 2: 9 by 8 is one whole and 1 by 8
        Desks.draws("0 01 1 1 01 1", 7, 1, 1, 0, -2);
    }

    private static void drawExponentialCoins() {
        // 1 by 3: COIN 1 by 3, COIN 1 by 6 (0.0010..)
        Desks.draws("1", 8, 1, 3, 0, 1);
        Desks.draws("00 1", 8, 1, 3, 0, 0);
        Desks.draws("00 000 1", 8, 1, 3, 0, 1);
        // 3 by 2: one whole, then 1 by 2; with the first 0 it is over
        Desks.draws("1", 8, 3, 2, 0, 0);
        Desks.draws("01 1", 8, 3, 2, 0, 1);
        Desks.draws("01 01", 8, 3, 2, 0, 0);
    }

    private static void drawRows() {
        // i 2 with 0: 2 1 0; i 1 with 0: 1 2 0
        Desks.drawsItems("00 0", 9, 3, 0, 1, 2, 0);
        Desks.drawsItems("01 1", 9, 3, 0, 0, 2, 1);
        // 1 by 3 is 0 by '1'; 1 by 2 is 0 by '1'; the last is sure
        Desks.drawsItems("1 1", 10, 3, 1, 2);
        // 2 by 4 is 1 by '0'; 1 by 3 is 0 by '1'; 1 by 2 is 1 by '0'
        Desks.drawsItems("0 1 0", 10, 4, 2, 0, 2);
        // n 3: h 1, r 5: 12 by 20 (0.1001..); h 2, r 4: 8 by 24; h 1, r 3: 6 by 12: up up down up down down
        Desks.drawsItems("0 1 0", 11, 3, 0, 1, 1, 0, 1, 0, 0);
        Desks.drawsItems("0 1 0", 12, 3, 0, 2, 0, 0);
        Desks.drawsItems("0 00", 12, 3, 0, 2, 1, 0);
        Desks.drawsItems("0 1 1", 12, 3, 0, 1, 0, 0);
        // 0 1 2 3; i 3 with 1: 0 3 2 1; i 2 with 0: 2 3 0 1; i 1 with 1
        Desks.drawsItems("01 00 1", 13, 4, 2, 0, 1, 0, 1);
        Desks.drawsItems("01 00 1", 9, 4, 0, 2, 3, 0, 1);
    }

    private static void item() {
        SampleDesk x = Desks.withBits("00 0");
        x.draw(9, 3, 0, 0);
        x.draw(1, 8, 0, 0);
        Check.due("a number draw leaves the items", x.item(0), 1);
        Check.due("item(1)", x.item(1), 2);
        Check.due("item(2)", x.item(2), 0);
        x.draw(11, 1, 0, 0);
        Check.due("a later draw of items", x.item(1), 0);
        Check.refuses("has items of its own", Check.INDEX, () -> x.item(2));
    }

    private static void decided() {
        SampleDesk x = Desks.withBits("1");
        Check.due("thirds: 1", x.decided(2, 1, 3, 0, 4, 1), 5);
        Check.due("thirds: 0", x.decided(2, 1, 3, 0, 4, 0), 10);
        Check.due("a half", x.decided(2, 1, 2, 0, 9, 1), 256);
        Check.due("uniform of eight", x.decided(1, 8, 0, 0, 3, 7), 1);
        Check.due("two of four coins", x.decided(3, 4, 1, 2, 5, 2), 12);
        Check.due("geometric", x.decided(4, 1, 2, 9, 6, 2), 8);
        SampleDesk y = Desks.table(1, 1, 1, 0, 2);
        // n 4, S 4, shares 4, 4, 0, 8: limits 0, 0, 0, 4 with aliases 1, 3, 0, 3
        Check.due("aliases: 3", y.decided(0, 0, 0, 0, 2, 3), 2);
        Check.due("aliases: 2", y.decided(0, 0, 0, 0, 2, 2), 0);
        y.build(0, 0);
        Check.due("tree: 3 by one bit", y.decided(0, 0, 0, 0, 1, 3), 1);
    }

    private static void undecided() {
        SampleDesk x = new SampleDesk();
        Check.due("thirds", x.undecided(2, 1, 3, 0, 7), 1);
        Check.due("uniform 3", x.undecided(1, 3, 0, 0, 2), 1);
        Check.due("uniform 5", x.undecided(1, 5, 0, 0, 3), 3);
        Check.due("four coins", x.undecided(3, 4, 1, 2, 3), 8);
        Check.due("geometric with cap", x.undecided(4, 1, 2, 3, 2), 1);
    }

    private static void journal() {
        SampleDesk x = Desks.withBits("110");
        x.draw(1, 2, 0, -77);
        x.draw(9, 2, -5, 6);
        x.draw(1, 0, 1, 9);
        long[][] due = {{1, 2, 0, -77, 0, 1, 1}, {9, 2, -5, 6, 1, 1, 2}, {1, 0, 1, 9, 2, 31, 0}};
        for (int i = 0; i < due.length; i++) {
            for (int what = 0; what <= 6; what++) {
                Check.due("journal(" + i + ", " + what + ")", x.journal(i, what), due[i][what]);
            }
        }
    }

    private static void replay() {
        SampleDesk x = Desks.withBits("1 01 00 0 1");
        x.draw(1, 2, 0, 0);
        x.draw(1, 3, 0, 0);
        x.draw(9, 3, 0, 0);
        x.draw(2, 1, 1, 0);
        for (int i = 0; i < 4; i++) {
            Check.holds("replay(" + i + ")", x.replay(i));
        }
        x.bit(2, 0);
        Check.holds("another answer", !x.replay(1));
        x.bit(2, 1);
        Check.holds("the bit is back", x.replay(1));
        x.bit(1, 1);
        Check.holds("other bits read", !x.replay(1));
        x.bit(5, 1);
        Check.holds("as many bits and the same answer, but other items", !x.replay(2));
        Check.holds("without a bit", x.replay(3));
    }

    private static void count() {
        SampleDesk x = new SampleDesk();
        x.feed(0, 0, 0, 0);
        x.feed(0, 0, 0, 0);
        x.draw(1, 16, 0, 0);
        x.rewind(100);
        x.draw(1, 4, 0, 0);
        Check.due("bits on the tape", x.count(0), 256);
        Check.due("the place", x.count(1), 102);
        Check.due("bits of the latest draw", x.count(2), 2);
        Check.due("entries", x.count(3), 2);
        Check.due("draws", x.count(4), 2);
    }
}
