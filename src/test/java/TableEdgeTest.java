/** The edges of tables: promises 5 to 7, and how is drawn from a table. */
public final class TableEdgeTest {
    private static final int LEAST = Integer.MIN_VALUE;
    private static final int MOST = Integer.MAX_VALUE;

    public static void main(String[] args) {
        noSuchWeight();
        weightBelowZero();
        weightBefore();
        notBuiltThen();
        noSuchTableToBuild();
        noSuchMethod();
        sumIsZero();
        sumBeyondAnInt();
        methods();
        noSuchAlias();
        notBuiltSo();
        tableFirst();
        aliasOfItself();
        greatestNumber();
        smallOnes();
        firstOnes();
        lessOfTheLargeOne();
        stillLarge();
        lastOfTheSmallOnes();
        largeOnesLeft();
        sharesBeyondAnInt();
        aliasDraws();
        oneWeightIsTheSum();
        theSumOrMore();
        aBitIsAdded();
        allNumbers();
        Check.end();
    }

    private static void noSuchWeight() {
        Check.sentence("IndexOutOfBoundsException, when there is no such table or number");
        SampleDesk x = new SampleDesk();
        for (int table : new int[] {LEAST, -1, 8, MOST}) {
            Check.refuses("weight(" + table + ", 0, 0)", Check.INDEX, () -> x.weight(table, 0, 0));
        }
        for (int i : new int[] {LEAST, -1, 64, MOST}) {
            Check.refuses("weight(0, " + i + ", 0)", Check.INDEX, () -> x.weight(0, i, 0));
            Check.refuses("weight(7, " + i + ", 0)", Check.INDEX, () -> x.weight(7, i, 0));
        }
        int mark = 1;
        for (int table : new int[] {0, 7}) {
            for (int i : new int[] {0, 63}) {
                Check.due("weight(" + table + ", " + i + ", " + mark + ")", x.weight(table, i, mark), 0);
                mark++;
            }
        }
        Check.due("weight(0, 0, 0)", x.weight(0, 0, 0), 1);
        Check.due("weight(0, 63, 0)", x.weight(0, 63, 0), 2);
        Check.due("weight(7, 0, 0)", x.weight(7, 0, 0), 3);
        Check.due("weight(7, 63, 0)", x.weight(7, 63, 0), 4);
    }

    private static void weightBelowZero() {
        Check.sentence("IllegalArgumentException, when w is below 0.");
        SampleDesk x = new SampleDesk();
        x.weight(2, 5, 9);
        for (int w : new int[] {LEAST, -1}) {
            Check.refuses("weight(2, 5, " + w + ")", Check.ARGUMENT, () -> x.weight(2, 5, w));
        }
        Check.due("weight(2, 5, 0): as it was before", x.weight(2, 5, 0), 9);
        Check.due("weight(2, 5, MOST)", x.weight(2, 5, MOST), 0);
        Check.due("weight(2, 5, 1)", x.weight(2, 5, 1), MOST);
    }

    private static void weightBefore() {
        Check.sentence("A weight of a table (0 .. 7) for a number (0 .. 63): the one before");
        SampleDesk x = new SampleDesk();
        for (int table = 0; table < 8; table++) {
            for (int i = 0; i < 64; i += 3) {
                x.weight(table, i, 100 * table + i);
            }
        }
        for (int table = 0; table < 8; table++) {
            for (int i = 0; i < 64; i += 3) {
                Check.due("the one before of table " + table + ", number " + i, x.weight(table, i, 1), 100 * table + i);
            }
        }
    }

    private static void notBuiltThen() {
        Check.sentence("the table is not built then");
        for (int method = 0; method <= 1; method++) {
            int m = method;
            SampleDesk x = Desks.table(method, 3);
            Desks.weigh(x, 1, 3);
            x.build(1, method);
            Check.due("built by method " + m, x.draw(0, 0, 0, 0), 0);
            Check.due("the same weight again", x.weight(0, 0, 3), 3);
            Check.refuses("it is not built", Check.STATE, () -> x.draw(0, 0, 0, 0));
            Check.refuses("nor for decided()", Check.STATE, () -> x.decided(0, 0, 0, 0, 0, 0));
            Check.refuses("nor for undecided()", Check.STATE, () -> x.undecided(0, 0, 0, 0, 0));
            Check.refuses("nor for alias()", Check.STATE, () -> x.alias(0, 0, 0));
            Check.holds("nor for replay()", !x.replay(0));
            Check.due("another table is", x.draw(0, 1, 0, 0), 0);
            Check.due("built again", x.build(0, m), 3);
            Check.due("it is built", x.draw(0, 0, 0, 0), 0);
            Check.refuses("a refused weight, number", Check.INDEX, () -> x.weight(0, 64, 1));
            Check.refuses("a refused weight, w", Check.ARGUMENT, () -> x.weight(0, 0, -1));
            Check.due("leave it built", x.draw(0, 0, 0, 0), 0);
        }
    }

    private static void noSuchTableToBuild() {
        Check.sentence("IndexOutOfBoundsException, when there is no such table");
        SampleDesk x = new SampleDesk();
        x.weight(0, 0, 1);
        x.weight(7, 0, 2);
        for (int table : new int[] {LEAST, -1, 8, MOST}) {
            Check.refuses("build(" + table + ", 0)", Check.INDEX, () -> x.build(table, 0));
            Check.refuses("build(" + table + ", 1)", Check.INDEX, () -> x.build(table, 1));
        }
        Check.due("build(0, 0)", x.build(0, 0), 1);
        Check.due("build(7, 1)", x.build(7, 1), 2);
    }

    private static void noSuchMethod() {
        Check.sentence("IllegalArgumentException, for another method");
        SampleDesk x = Desks.table(1, 1, 3);
        for (int method : new int[] {LEAST, -1, 2, MOST}) {
            Check.refuses("build(0, " + method + ")", Check.ARGUMENT, () -> x.build(0, method));
            Check.due("it stays built with aliases", x.alias(0, 0, 0), 2);
        }
        Check.due("build(0, 0)", x.build(0, 0), 4);
        Check.refuses("it is a tree now", Check.STATE, () -> x.alias(0, 0, 0));
        Check.due("build(0, 1)", x.build(0, 1), 4);
        Check.due("it has aliases now", x.alias(0, 0, 1), 1);
    }

    private static void sumIsZero() {
        Check.sentence("IllegalStateException, when the sum is 0.");
        SampleDesk x = new SampleDesk();
        Check.refuses("no weight was ever told", Check.STATE, () -> x.build(4, 0));
        x.weight(4, 63, 1);
        Check.due("a sum of 1", x.build(4, 1), 1);
        x.weight(4, 63, 0);
        Check.refuses("the weight is 0 again, tree", Check.STATE, () -> x.build(4, 0));
        Check.refuses("the weight is 0 again, aliases", Check.STATE, () -> x.build(4, 1));
        Check.refuses("and nothing is built", Check.STATE, () -> x.draw(0, 4, 0, 0));
    }

    private static void sumBeyondAnInt() {
        Check.sentence("the sum of its weights");
        SampleDesk x = new SampleDesk();
        x.weight(0, 0, MOST);
        Check.due("one weight", x.build(0, 0), 2147483647L);
        x.weight(0, 1, 1);
        Check.due("one more than an int has", x.build(0, 0), 2147483648L);
        x.weight(0, 1, MOST);
        // as an int this sum would be 0
        x.weight(0, 2, 2);
        Check.due("just 2^32, tree", x.build(0, 0), 4294967296L);
        Check.due("just 2^32, aliases", x.build(0, 1), 4294967296L);
        for (int i = 0; i < 64; i++) {
            x.weight(0, i, MOST);
        }
        Check.due("the greatest sum, tree", x.build(0, 0), 137438953408L);
        Check.due("the greatest sum, aliases", x.build(0, 1), 137438953408L);
    }

    private static void methods() {
        Check.sentence("Builds a table as a tree (0) or with aliases (1)");
        SampleDesk x = Desks.table(0, 1, 3);
        x.feed(0, 0, 0, 0);
        Check.due("a tree", x.draw(0, 0, 0, 0), 1);
        Check.due("by one bit", x.count(2), 1);
        x.build(0, 1);
        Check.due("with aliases", x.draw(0, 0, 0, 0), 0);
        Check.due("by two bits", x.count(2), 2);
        x.build(0, 0);
        Check.due("a tree again", x.draw(0, 0, 0, 0), 1);
    }

    private static void noSuchAlias() {
        Check.sentence("IndexOutOfBoundsException, when there is no such table, what, or number below n");
        SampleDesk x = Desks.table(1, 1, 2, 4);
        for (int wrong : new int[] {LEAST, -1, 8, MOST}) {
            Check.refuses("alias(" + wrong + ", 0, 0)", Check.INDEX, () -> x.alias(wrong, 0, 0));
        }
        for (int wrong : new int[] {LEAST, -1, 3, 63, 64, MOST}) {
            Check.refuses("alias(0, " + wrong + ", 0)", Check.INDEX, () -> x.alias(0, wrong, 0));
            Check.refuses("alias(0, " + wrong + ", 1)", Check.INDEX, () -> x.alias(0, wrong, 1));
        }
        for (int wrong : new int[] {LEAST, -1, 2, MOST}) {
            Check.refuses("alias(0, 0, " + wrong + ")", Check.INDEX, () -> x.alias(0, 0, wrong));
        }
        Check.due("alias(0, 0, 0)", x.alias(0, 0, 0), 3);
        Check.due("alias(0, 2, 0)", x.alias(0, 2, 0), 7);
        Check.due("alias(0, 2, 1)", x.alias(0, 2, 1), 2);
        Desks.weigh(x, 7, 5);
        x.build(7, 1);
        Check.due("alias(7, 0, 0)", x.alias(7, 0, 0), 5);
    }

    private static void notBuiltSo() {
        Check.sentence("IllegalStateException, when it is not built so.");
        SampleDesk x = new SampleDesk();
        Check.refuses("no weights", Check.STATE, () -> x.alias(3, 0, 0));
        x.weight(3, 0, 1);
        Check.refuses("weights, not built", Check.STATE, () -> x.alias(3, 0, 0));
        x.build(3, 0);
        Check.refuses("built as a tree", Check.STATE, () -> x.alias(3, 0, 0));
        x.build(3, 1);
        Check.due("built with aliases", x.alias(3, 0, 0), 1);
        x.weight(3, 40, 0);
        Check.refuses("a weight came since", Check.STATE, () -> x.alias(3, 0, 0));
    }

    private static void tableFirst() {
        Check.sentence("(The table is asked first, then whether it is built so.)");
        SampleDesk x = Desks.table(0, 1, 2);
        Check.refuses("no table, no number, no what", Check.INDEX, () -> x.alias(8, 64, 2));
        Check.refuses("no table, no number", Check.INDEX, () -> x.alias(-1, -1, 0));
        Check.refuses("a tree, no number", Check.STATE, () -> x.alias(0, 2, 0));
        Check.refuses("a tree, no number ever", Check.STATE, () -> x.alias(0, 64, 0));
        Check.refuses("a tree, no what", Check.STATE, () -> x.alias(0, 0, 2));
        Check.refuses("not built, no number, no what", Check.STATE, () -> x.alias(1, -1, -1));
        x.build(0, 1);
        Check.refuses("with aliases, no number", Check.INDEX, () -> x.alias(0, 2, 0));
        Check.refuses("with aliases, no what", Check.INDEX, () -> x.alias(0, 0, 2));
    }

    private static void aliases(int[] weights, long[] limits, int[] due) {
        SampleDesk x = Desks.table(1, weights);
        for (int i = 0; i < limits.length; i++) {
            Check.due("limit of " + i, x.alias(0, i, 0), limits[i]);
            Check.due("alias of " + i, x.alias(0, i, 1), due[i]);
        }
        Check.refuses("number n", Check.INDEX, () -> x.alias(0, limits.length, 0));
    }

    private static void aliasOfItself() {
        Check.sentence("alias (1; itself, when it has none)");
        aliases(new int[] {4}, new long[] {4}, new int[] {0});
        aliases(new int[] {2, 2}, new long[] {4, 4}, new int[] {0, 1});
        SampleDesk x = Desks.table(1, 1, 3);
        Check.due("0 has one", x.alias(0, 0, 1), 1);
        x.weight(0, 0, 3);
        x.build(0, 1);
        Check.due("0 has none in a new build", x.alias(0, 0, 1), 0);
    }

    private static void greatestNumber() {
        Check.sentence("n is the greatest number with a weight above 0, plus 1.");
        SampleDesk x = new SampleDesk();
        x.weight(0, 63, 7);
        x.build(0, 1);
        // n 64, S 7: 63 has share 448 and gives 7 to each of the 63 others
        Check.due("n 64: limit of 63", x.alias(0, 63, 0), 7);
        Check.due("n 64: limit of 0", x.alias(0, 0, 0), 0);
        Check.due("n 64: alias of 62", x.alias(0, 62, 1), 63);
        Check.refuses("n 64: number 64", Check.INDEX, () -> x.alias(0, 64, 0));
        x.weight(0, 63, 0);
        x.weight(0, 2, 1);
        x.build(0, 1);
        Check.due("n 3: limit of 2", x.alias(0, 2, 0), 1);
        Check.refuses("n 3: number 3", Check.INDEX, () -> x.alias(0, 3, 0));
        x.weight(0, 2, 0);
        x.weight(0, 0, 1);
        x.build(0, 1);
        Check.due("n 1: limit of 0", x.alias(0, 0, 0), 1);
        Check.refuses("n 1: number 1", Check.INDEX, () -> x.alias(0, 1, 0));
        x.weight(0, 5, 1);
        x.build(0, 1);
        Check.due("n 6: limit of 5", x.alias(0, 5, 0), 2);
        Check.refuses("n 6: number 6", Check.INDEX, () -> x.alias(0, 6, 0));
        x.weight(0, 63, 1);
        x.build(0, 0);
        x.feed(-1, 0, 0, 0);
        // thirds for 0, 5 and 63: '11' begins anew
        x.rewind(31);
        Check.due("as a tree too a number above the last n", x.draw(0, 0, 0, 0), 63);
    }

    private static void smallOnes() {
        Check.sentence("SMALL are those whose share is below the sum S, LARGE the others, in order of their numbers.");
        // S 6, shares 3, 6, 9: 1 has just S and is the first large one
        aliases(new int[] {1, 2, 3}, new long[] {3, 3, 6}, new int[] {1, 2, 2});
        // S 9, shares 12, 9, 6: 1 has just S and stays as it is, behind 0
        aliases(new int[] {4, 3, 2}, new long[] {9, 9, 6}, new int[] {0, 1, 0});
        // S 27, shares 24, 27, 30: 1 has just S
        aliases(new int[] {8, 9, 10}, new long[] {24, 24, 27}, new int[] {1, 2, 2});
    }

    private static void firstOnes() {
        Check.sentence("of the first small one, i, and the first large one, j: i is done: its LIMIT is its share, "
                + "its alias j");
        // S 10, shares 4, 12, 4, 20: 0 takes from 1, which has 6 then, so that 2 takes from 3
        aliases(new int[] {1, 3, 1, 5, 0, 0}, new long[] {4, 6, 4, 10}, new int[] {1, 3, 3, 3});
        // S 12, shares 6, 30, 18, 6, 0, 12: 0, 3 and 4 all take from 1
        aliases(new int[] {1, 5, 3, 1, 0, 2}, new long[] {6, 6, 12, 6, 0, 12}, new int[] {1, 2, 2, 1, 1, 5});
    }

    private static void lessOfTheLargeOne() {
        Check.sentence("the share of j is made less by S less the share of i");
        // S 10, shares 3, 6, 21: 2 is less by 7 and by 4, and just S is left
        aliases(new int[] {1, 2, 7}, new long[] {3, 6, 10}, new int[] {2, 2, 2});
        // S 10, shares 0, 20: 1 is less by all of S
        aliases(new int[] {0, 10}, new long[] {0, 10}, new int[] {1, 1});
    }

    private static void stillLarge() {
        Check.sentence("when it is below S then, j is taken from the large ones");
        // S 4, shares 0, 0, 8, 8: 2 has just S when 0 is done, and is still the first large one for 1
        aliases(new int[] {0, 0, 2, 2}, new long[] {0, 0, 0, 4}, new int[] {2, 2, 3, 3});
        // S 5, shares 4, 0, 8, 8: 2 has 7 when 0 is done and 2 when 1 is done
        aliases(new int[] {1, 0, 2, 2}, new long[] {4, 0, 2, 5}, new int[] {2, 2, 3, 3});
    }

    private static void lastOfTheSmallOnes() {
        Check.sentence("and comes last of the small ones");
        // S 10, shares 15, 0, 15, 0, 20: 0 is small when 1 is done, but 3 comes first, and takes all that 2 has above S
        aliases(new int[] {3, 0, 3, 0, 4}, new long[] {5, 0, 5, 0, 10}, new int[] {4, 0, 4, 2, 4});
        // S 12, shares 20, 4, 0, 24: 0 is left with 12 by 1 and with 0 by 2
        aliases(new int[] {5, 1, 0, 6}, new long[] {0, 4, 0, 12}, new int[] {3, 0, 0, 3});
    }

    private static void largeOnesLeft() {
        Check.sentence("The large ones that are left have limit S.");
        aliases(new int[] {1, 1, 1}, new long[] {3, 3, 3}, new int[] {0, 1, 2});
        // S 6, shares 15, 5, 0, 5, 5
        aliases(new int[] {3, 1, 0, 1, 1}, new long[] {6, 5, 0, 5, 5}, new int[] {0, 0, 0, 0, 0});
        aliases(new int[] {0, 0, 9}, new long[] {0, 0, 9}, new int[] {2, 2, 2});
    }

    private static void sharesBeyondAnInt() {
        Check.sentence("At first each number below n has a SHARE n times its weight");
        // S 4294967295, shares 6442450941 twice, and 3
        aliases(new int[] {MOST, MOST, 1}, new long[] {2147483649L, 4294967295L, 3}, new int[] {1, 1, 0});
        SampleDesk x = new SampleDesk();
        for (int i = 0; i < 64; i++) {
            x.weight(0, i, MOST);
        }
        x.build(0, 1);
        for (int i = 0; i < 64; i += 9) {
            Check.due("limit of " + i + " of 64 of the greatest weights", x.alias(0, i, 0), 137438953408L);
            Check.due("its alias", x.alias(0, i, 1), i);
        }
    }

    private static void aliasDraws() {
        Check.sentence("A draw: UNIFORM n is c; COIN of its limit by S: when 1, c, else its alias.");
        Desks.drawsFromTable("", 1, 0, 9);
        Desks.drawsFromTable("0", 1, 0, 2, 2);
        Desks.drawsFromTable("1", 1, 1, 2, 2);
        // n 3, limits 0, 0, 9: c alone is read, and 3 is not below 3
        Desks.drawsFromTable("00", 1, 2, 0, 0, 9);
        Desks.drawsFromTable("10", 1, 2, 0, 0, 9);
        Desks.drawsFromTable("11 01", 1, 2, 0, 0, 9);
        // n 2, S 4: 0 has limit 2 and alias 1
        Desks.drawsFromTable("00", 1, 0, 1, 3);
        Desks.drawsFromTable("01", 1, 1, 1, 3);
        Desks.drawsFromTable("1", 1, 1, 1, 3);
        // 2 has limit 3 by 4294967295, thirty zeros and then 11, and alias 0
        Desks.drawsFromTable("10" + "0".repeat(31), 1, 2, MOST, MOST, 1);
        Desks.drawsFromTable("10" + "0".repeat(30) + "10", 1, 2, MOST, MOST, 1);
        Desks.drawsFromTable("101", 1, 0, MOST, MOST, 1);
    }

    private static void oneWeightIsTheSum() {
        Check.sentence("when one weight is the sum, its number, without a bit.");
        Desks.drawsFromTable("", 0, 0, 1);
        Desks.drawsFromTable("", 0, 1, 0, MOST, 0);
        int[] last = new int[64];
        last[63] = 5;
        Desks.drawsFromTable("", 0, 63, last);
        SampleDesk x = new SampleDesk();
        x.weight(0, 63, 5);
        x.build(0, 0);
        Check.due("also of no tape", x.draw(0, 0, 0, 0), 63);
        x.weight(0, 0, 1);
        x.build(0, 0);
        Check.refuses("but not with another weight of 1", Check.ENDED, () -> x.draw(0, 0, 0, 0));
    }

    private static void theSumOrMore() {
        Check.sentence("when it is the sum or more, it is less by that, and: when d is 0, the number is the outcome; "
                + "else d is less by 1.");
        // doubled each is just the sum
        Desks.drawsFromTable("0", 0, 0, 1, 1);
        Desks.drawsFromTable("1", 0, 1, 1, 1);
        Desks.drawsFromTable("0", 0, 0, MOST, MOST);
        Desks.drawsFromTable("1", 0, 1, MOST, MOST);
        // S 4: 3 is more than the sum, and 2 is left of it, which is just the sum with the next bit
        Desks.drawsFromTable("0", 0, 1, 1, 3);
        Desks.drawsFromTable("10", 0, 0, 1, 3);
        Desks.drawsFromTable("11", 0, 1, 1, 3);
        // a weight of 0 never is an outcome
        Desks.drawsFromTable("0", 0, 1, 0, 1, 0, 1);
        Desks.drawsFromTable("1", 0, 3, 0, 1, 0, 1);
        // S 2^32 - 1: 0 and 1 have 0 and then 31 ones, 2 has 31 zeros and then a one
        Desks.drawsFromTable("00", 0, 0, MOST, MOST, 1);
        Desks.drawsFromTable("01", 0, 1, MOST, MOST, 1);
        Desks.drawsFromTable("100", 0, 0, MOST, MOST, 1);
        Desks.drawsFromTable("1".repeat(31) + "0", 0, 2, MOST, MOST, 1);
    }

    private static void aBitIsAdded() {
        Check.sentence("again and again: a bit is added to d doubled");
        // thirds: '11' is one too many of three leaves, and begins anew
        Desks.drawsFromTable("10", 0, 2, 1, 1, 1);
        Desks.drawsFromTable("1100", 0, 0, 1, 1, 1);
        Desks.drawsFromTable("11".repeat(60) + "10", 0, 2, 1, 1, 1);
        SampleDesk x = Desks.table(0, 1, 1, 1);
        Desks.feedToTheBrim(x, -1);
        Check.refuses("a full tape of ones never decides", Check.ENDED, () -> x.draw(0, 0, 0, 0));
    }

    private static void allNumbers() {
        Check.sentence("TABLE with weights 0 .. 63");
        int[] alike = new int[64];
        java.util.Arrays.fill(alike, MOST);
        for (int i : new int[] {0, 1, 31, 32, 62, 63}) {
            String bits = Integer.toBinaryString(64 + i).substring(1);
            Desks.drawsFromTable(bits, 0, i, alike);
            Desks.drawsFromTable(bits, 1, i, alike);
        }
    }
}
