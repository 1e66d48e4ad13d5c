import java.util.Arrays;

/** The edges of how is drawn: what needs no bit, where a rule begins anew, and products beyond an int. */
public final class LawEdgeTest {
    private static final int MOST = Integer.MAX_VALUE;

    public static void main(String[] args) {
        uniformBelow();
        uniformOfPowers();
        uniformBeyondAnInt();
        sureCoins();
        coinDigits();
        coinBits();
        coinComesOut();
        coinBeyondAnInt();
        binomial();
        geometric();
        geometricCap();
        hyper();
        hyperOneSortGone();
        hyperCounted();
        unitExponential();
        unitExponentialBeyondAnInt();
        exponentialWholeOnes();
        exponentialFirstZero();
        poissonOfZero();
        poissonTimes();
        poissonRounds();
        bellWidth();
        bellAnew();
        bellUnits();
        bellSign();
        bellBeyondAnInt();
        shuffle();
        subset();
        path();
        pathCoins();
        tree();
        stratum();
        Check.end();
    }

    private static String zeros(int n) {
        return "0".repeat(n);
    }

    private static String ones(int n) {
        return "1".repeat(n);
    }

    private static void uniformBelow() {
        Check.sentence("Then, if v is below n, that's the outcome; else both are made less by n, and it goes on.");
        Desks.draws("10", 1, 3, 0, 0, 2);
        Desks.draws("11 00", 1, 3, 0, 0, 0);
        Desks.draws("100", 1, 5, 0, 0, 4);
        // 5 of 8 is v 0 of m 3, and 7 of 8 is v 2 of m 3
        Desks.draws("101 0", 1, 5, 0, 0, 0);
        Desks.draws("101 1", 1, 5, 0, 0, 1);
        Desks.draws("111 0", 1, 5, 0, 0, 4);
        // 5 of 6 is v 0 of m 1
        Desks.draws("111 1 100", 1, 5, 0, 0, 4);
    }

    private static void uniformOfPowers() {
        Check.sentence("UNIFORM n: m is 1 and v 0. As long as m is below n, m is doubled and v doubled, with a bit "
                + "added.");
        Desks.draws("", 1, 1, 0, 0, 0);
        Desks.draws("0", 1, 2, 0, 0, 0);
        Desks.draws("1", 1, 2, 0, 0, 1);
        Desks.draws(ones(12), 1, 4096, 0, 0, 4095);
        Desks.draws(zeros(13), 1, 4097, 0, 0, 0);
        Desks.draws("1" + zeros(12), 1, 4097, 0, 0, 4096);
        Desks.draws(ones(11) + "0", 1, 4095, 0, 0, 4094);
        Desks.draws(ones(12) + zeros(11) + "1", 1, 4095, 0, 0, 1);
    }

    private static void uniformBeyondAnInt() {
        Check.sentence("UNIFORM a + 2147483648 * b");
        Desks.draws(ones(30) + "0", 1, MOST, 0, 0, MOST - 1);
        Desks.draws(ones(31), 1, 0, 1, 0, MOST);
        Desks.draws("1" + zeros(31), 1, 1, 1, 0, 2147483648L);
        Desks.draws(ones(32), 1, 0, 2, 0, 4294967295L);
        Desks.draws(ones(39), 1, 0, 256, 0, 549755813887L);
        Desks.draws(ones(39) + "0", 1, MOST, 511, 0, 1099511627774L);
        // 2^40 - 1 is the one v of 40 bits that is not below n: v 0 of m 1
        Desks.draws(ones(40) + zeros(39) + "1", 1, MOST, 511, 0, 1);
    }

    private static void sureCoins() {
        Check.sentence("COIN: 0 for num 0, 1 for num equal to den, without a bit.");
        for (int den : new int[] {1, 2, MOST}) {
            Desks.draws("", 2, 0, den, 0, 0);
            Desks.draws("", 2, den, den, 0, 1);
        }
        Desks.draws("0", 2, 1, 2, 0, 1);
        Desks.draws(zeros(31), 2, 1, MOST, 0, 1);
        Desks.draws("0", 2, MOST - 1, MOST, 0, 1);
    }

    private static void coinDigits() {
        Check.sentence("r is doubled, the digit is 1 when it is den or more (and r less by den then), else 0");
        // 1 by 2: doubled it is den; 1 by 4 is 0.01, 3 by 4 is 0.11, 1 by 3 is 0.0101..
        Desks.draws("0", 2, 1, 2, 0, 1);
        Desks.draws("00", 2, 1, 4, 0, 1);
        Desks.draws("1", 2, 1, 4, 0, 0);
        Desks.draws("0", 2, 3, 4, 0, 1);
        Desks.draws("10", 2, 3, 4, 0, 1);
        Desks.draws("00", 2, 1, 3, 0, 1);
        Desks.draws("011", 2, 1, 3, 0, 0);
        Desks.draws("0100", 2, 1, 3, 0, 1);
    }

    private static void coinBits() {
        Check.sentence("a bit is read; is that below the digit, the coin is 1; above, 0");
        // 5 by 8 is 0.101
        Desks.draws("0", 2, 5, 8, 0, 1);
        Desks.draws("11", 2, 5, 8, 0, 0);
        Desks.draws("100", 2, 5, 8, 0, 1);
        Desks.draws("101", 2, 5, 8, 0, 0);
    }

    private static void coinComesOut() {
        Check.sentence("else it goes on, but when r is 0 the coin is 0.");
        Desks.draws("1", 2, 1, 2, 0, 0);
        Desks.draws("01", 2, 1, 4, 0, 0);
        Desks.draws("11", 2, 3, 4, 0, 0);
        Desks.draws(zeros(29) + "1", 2, 1, 1 << 30, 0, 0);
        Desks.draws(zeros(30), 2, 1, 1 << 30, 0, 1);
        // a third never comes out
        SampleDesk x = Desks.full(0x55555555);
        Check.refuses("a third from a full tape of its own digits", Check.ENDED, () -> x.draw(2, 1, 3, 0));
    }

    private static void coinBeyondAnInt() {
        Check.sentence("r is doubled");
        // MOST - 1 by MOST: thirty ones and a zero, again and again
        Desks.draws(ones(31), 2, MOST - 1, MOST, 0, 0);
        Desks.draws(ones(30) + "00", 2, MOST - 1, MOST, 0, 1);
        // 2^30 by MOST: a one and thirty zeros
        Desks.draws("0", 2, 1 << 30, MOST, 0, 1);
        Desks.draws("1" + zeros(30) + "0", 2, 1 << 30, MOST, 0, 1);
        Desks.draws("1" + zeros(29) + "1", 2, 1 << 30, MOST, 0, 0);
    }

    private static void binomial() {
        Check.sentence("BINOMIAL: how many of n COINS are 1.");
        Desks.draws("", 3, 0, 1, 2, 0);
        Desks.draws("0", 3, 1, 1, 2, 1);
        Desks.draws("1", 3, 1, 1, 2, 0);
        Desks.draws("", 3, 1000, 0, 1, 0);
        Desks.draws("", 3, 1000, MOST, MOST, 1000);
        Desks.draws(zeros(1000), 3, 1000, 1, 2, 1000);
        Desks.draws(zeros(999) + "1", 3, 1000, 1, 2, 999);
        Desks.draws(ones(1000), 3, 1000, 1, 2, 0);
    }

    private static void geometric() {
        Check.sentence("GEOMETRIC: how many COINS are 0 before the first that is 1");
        Desks.draws("0", 4, 1, 2, 5, 0);
        Desks.draws("1110", 4, 1, 2, 5, 3);
        Desks.draws("", 4, 1, 1, 5, 0);
        Desks.draws("", 4, MOST, MOST, 100000, 0);
    }

    private static void geometricCap() {
        Check.sentence("but when there are as many as the cap, that (no further coin).");
        Desks.draws("", 4, 1, 2, 0, 0);
        Desks.draws("", 4, 1, 1, 0, 0);
        Desks.draws("1", 4, 1, 2, 1, 1);
        Desks.draws("0", 4, 1, 2, 1, 0);
        Desks.draws("11110", 4, 1, 2, 5, 4);
        Desks.draws("11111", 4, 1, 2, 5, 5);
        Desks.draws("", 4, 0, 1, 100000, 100000);
        Desks.draws(ones(16383), 4, 1, 2, 16383, 16383);
        SampleDesk x = Desks.full(-1);
        Check.refuses("a cap beyond the tape", Check.ENDED, () -> x.draw(4, 1, 2, 16385));
        Check.due("a cap of just the tape", x.draw(4, 1, 2, 16384), 16384);
    }

    private static void hyper() {
        Check.sentence("k times a COIN with chance a by a + b");
        Desks.draws("", 6, 0, 0, 0, 0);
        Desks.draws("", 6, 5, 5, 0, 0);
        Desks.draws("", 6, 100000, 100000, 0, 0);
        Desks.draws("0", 6, 1, 1, 1, 1);
        Desks.draws("1", 6, 1, 1, 1, 0);
        Desks.draws("0", 6, 100000, 100000, 1, 1);
        // 99999 by 199999 is below a half and begins 0.01, so that '1' is above it
        Desks.draws("0 1", 6, 100000, 100000, 2, 1);
        Desks.draws("1", 6, 100000, 100000, 1, 0);
    }

    private static void hyperOneSortGone() {
        Check.sentence("when it is 1, a is less by 1 from then on and one more is counted, else b is less by 1");
        Desks.draws("", 6, 100000, 0, 100000, 100000);
        Desks.draws("", 6, 0, 100000, 100000, 0);
        Desks.draws("", 6, 1, 0, 1, 1);
        Desks.draws("", 6, 0, 1, 1, 0);
        Desks.draws("0", 6, 1, 1, 2, 1);
        Desks.draws("1", 6, 1, 1, 2, 1);
        // 1 by 100001 is 1 by zeros: a is gone, and the 100000 of b that are left need no bit
        Desks.draws(zeros(17), 6, 1, 100000, 100001, 1);
        // 100000 by 100001 begins with sixteen ones and a zero: b is gone
        Desks.draws(ones(17), 6, 100000, 1, 100001, 100000);
    }

    private static void hyperCounted() {
        Check.sentence("the outcome is how many were counted.");
        // 2 and 2: a half, then 1 by 3 or 2 by 3 (0.1010..), then a half or what is sure
        Desks.draws("0 00", 6, 2, 2, 2, 2);
        Desks.draws("0 00", 6, 2, 2, 4, 2);
        Desks.draws("0 1 0", 6, 2, 2, 3, 2);
        Desks.draws("0 1 1", 6, 2, 2, 3, 1);
        Desks.draws("1 11", 6, 2, 2, 2, 0);
        Desks.draws("1 11", 6, 2, 2, 3, 1);
    }

    private static void unitExponential() {
        Check.sentence("UNIT EXPONENTIAL COIN for x = num by den from 0 to 1: k is 1; as long as a COIN of num by k "
                + "times den is 1, k is one more; 1 when k is odd then, else 0.");
        Desks.draws("", 8, 0, 1, 0, 1);
        Desks.draws("", 8, 0, MOST, 0, 1);
        // 1 by 2: COIN 1 by 2, COIN 1 by 4, COIN 1 by 6 (0.0010..)
        Desks.draws("1", 8, 1, 2, 0, 1);
        Desks.draws("0 1", 8, 1, 2, 0, 0);
        Desks.draws("0 00 1", 8, 1, 2, 0, 1);
        Desks.draws("0 00 000 1", 8, 1, 2, 0, 0);
        // x 1: the COIN of 1 by 1 needs no bit, COIN 1 by 2, COIN 1 by 3
        Desks.draws("1", 8, 1, 1, 0, 0);
        Desks.draws("0 1", 8, 1, 1, 0, 1);
        Desks.draws("0 00 1", 8, 1, 1, 0, 0);
    }

    private static void unitExponentialBeyondAnInt() {
        Check.sentence("a COIN of num by k times den");
        // MOST - 1 by MOST: by 2 * MOST it is 0.01.., by 3 * MOST 0.0101..
        Desks.draws("0 1", 8, MOST - 1, MOST, 0, 0);
        Desks.draws("0 00 1", 8, MOST - 1, MOST, 0, 1);
        Desks.draws("0 00 00 1", 8, MOST - 1, MOST, 0, 0);
        Desks.draws("1", 8, 1, MOST, 0, 1);
        // 1 by MOST is thirty zeros and a one, 1 by 2 * MOST has a zero more
        Desks.draws(zeros(31) + "1", 8, 1, MOST, 0, 0);
        Desks.draws(zeros(31) + zeros(32) + "1", 8, 1, MOST, 0, 1);
    }

    private static void exponentialWholeOnes() {
        Check.sentence("EXPONENTIAL COIN for any x: for each whole one in x a UNIT EXPONENTIAL COIN of 1 by 1");
        // 1 by 1 has one whole, and 0 is left, which needs no bit; 2 by 3 has none
        Desks.draws("01", 8, 1, 1, 0, 1);
        Desks.draws("01", 8, MOST, MOST, 0, 1);
        Desks.draws("11", 8, 2, 3, 0, 1);
        Desks.draws("0 1", 8, 2, 3, 0, 0);
        Desks.draws("01 01", 8, 2, 1, 0, 1);
        Desks.draws("01 01", 8, 4, 2, 0, 1);
        Desks.draws("01 1", 8, 3, 2, 0, 1);
        Desks.draws("01 01 1", 8, 5, 2, 0, 1);
        Desks.draws("01".repeat(1000), 8, 1000, 1, 0, 1);
        Desks.draws("01".repeat(1000), 8, 2147483000, 2147483, 0, 1);
    }

    private static void exponentialFirstZero() {
        Check.sentence("and the outcome is 0 with the first that is 0; else that of what is left of x.");
        Desks.draws("1", 8, 1000, 1, 0, 0);
        Desks.draws("01 1", 8, 1000, 1, 0, 0);
        Desks.draws("01".repeat(999) + "1", 8, 1000, 1, 0, 0);
        Desks.draws("01 01", 8, 3, 2, 0, 0);
        Desks.draws("01".repeat(999) + "1", 8, 1999, 2, 0, 1);
        Desks.draws("01".repeat(999) + "01", 8, 1999, 2, 0, 0);
    }

    private static void poissonOfZero() {
        Check.sentence("POISSON of num by den: 0 for num 0.");
        Desks.draws("", 5, 0, 1, 0, 0);
        Desks.draws("", 5, 0, MOST, 0, 0);
        // t 1, and a COIN of 1 by MOST that is 0 at once
        Desks.draws("1", 5, 1, MOST, 0, 0);
        Desks.draws(zeros(31) + "1", 5, 1, MOST, 0, 1);
    }

    private static void poissonTimes() {
        Check.sentence("Else t is twice that, rounded up; t times");
        // 1 by 2: t 1; 3 by 5: 1.2, t 2 with COINS of 3 by 10; 1 by 1: t 2; 11 by 10: 2.2, t 3; 3 by 2: t 3
        Desks.draws("1", 5, 1, 2, 0, 0);
        Desks.draws("1 1", 5, 3, 5, 0, 0);
        Desks.draws("1 1", 5, 1, 1, 0, 0);
        Desks.draws("1 1 1", 5, 11, 10, 0, 0);
        Desks.draws("1 1 1", 5, 3, 2, 0, 0);
        Desks.draws("1 1 1 1", 5, 16, 10, 0, 0);
        Desks.draws(ones(128), 5, 64, 1, 0, 0);
        Desks.draws(ones(127), 5, 127, 2, 0, 0);
        // twice MOST by MOST is just 2
        Desks.draws("1 1", 5, MOST, MOST, 0, 0);
        // t 128 times 2^25 is 2^32, and MOST by that 0.01..
        Desks.draws(ones(128), 5, MOST, 1 << 25, 0, 0);
        Desks.draws("00 1" + ones(127), 5, MOST, 1 << 25, 0, 1);
        Desks.draws("01" + ones(30) + ones(127), 5, MOST, 1 << 25, 0, 0);
    }

    private static void poissonRounds() {
        Check.sentence("n is how many COINS of num by t times den are 1 before the first that is 0, and UNIFORM 2, 3, "
                + ".. n are drawn until one is not 0; when none was not, n is counted, and this time is over.");
        Desks.draws("1", 5, 1, 2, 0, 0);
        Desks.draws("01", 5, 1, 2, 0, 1);
        Desks.draws("001 0", 5, 1, 2, 0, 2);
        Desks.draws("001 1 01", 5, 1, 2, 0, 1);
        Desks.draws("0001 0 00", 5, 1, 2, 0, 3);
        Desks.draws("0001 0 10 1", 5, 1, 2, 0, 0);
        // UNIFORM 2 is not 0: UNIFORM 3 is not drawn
        Desks.draws("0001 1 1", 5, 1, 2, 0, 0);
        Desks.draws("00001 0 00 00", 5, 1, 2, 0, 4);
    }

    private static void bellWidth() {
        Check.sentence("BELL of variance num by den: t is the whole square root of that, rounded down, plus 1.");
        // t 1 below a variance of 1, 2 below 4, 3 below 9: u needs 0, 1 or 2 bits; then v, the sign, and a last coin
        Desks.draws("1 0 1", 7, 1, 10, 0, 0);
        Desks.draws("1 0 1", 7, 9, 10, 0, 0);
        Desks.draws("0 1 0 1", 7, 10, 10, 0, 0);
        Desks.draws("0 1 0 1", 7, 1, 1, 0, 0);
        Desks.draws("0 1 0 1", 7, 3, 1, 0, 0);
        Desks.draws("0 1 0 1", 7, 39, 10, 0, 0);
        Desks.draws("00 1 0 1", 7, 40, 10, 0, 0);
        Desks.draws("00 1 0 1", 7, 4, 1, 0, 0);
        // t 31 below 961, else 32: the greatest u, with a coin of u by t that is 1 by ones
        Desks.draws("11110 11111 1 0 1", 7, 960, 1, 0, 30);
        Desks.draws("11111 00000 1 0 1", 7, 960, 1, 0, 0);
        Desks.draws("11111 11111 1 0 1", 7, 961, 1, 0, 31);
        Desks.draws("11111 11111 1 0 1", 7, 1000, 1, 0, 31);
        // t 10 below 100, where 10 of 16 is v 0 of m 6; else 11
        Desks.draws("1010 0 1 0 1", 7, 999, 10, 0, 0);
        Desks.draws("1010 1111 1 0 1", 7, 1000, 10, 0, 10);
    }

    private static void bellAnew() {
        Check.sentence("EXPONENTIAL COIN of u by t: when 0, anew");
        // variance 3: t 2; u 1 and the COINS of 1 by 2 and 1 by 4 make 0; u 1 and a COIN that is 0 make 1
        Desks.draws("1 01 0 1 0 1", 7, 3, 1, 0, 0);
        Desks.draws("1 1 1 0 1", 7, 3, 1, 0, 1);
        // y 0: the last coin of 9 by 24 (0.011) is 0 by COINS of 3 by 8 and 3 by 16
        Desks.draws("0 1 0 00 1 1 1 1 0 1", 7, 3, 1, 0, 1);
    }

    private static void bellUnits() {
        Check.sentence("v is how many UNIT EXPONENTIAL COINS of 1 by 1 are 1 before the first that is 0; "
                + "y is u + t * v");
        // variance 3: t 2; the last coin of y 5 is that of 49 by 24
        Desks.draws("0 1 0 1", 7, 3, 1, 0, 0);
        Desks.draws("1 1 1 0 1", 7, 3, 1, 0, 1);
        Desks.draws("0 01 1 0 1", 7, 3, 1, 0, 2);
        Desks.draws("1 1 01 01 1 0 01 01 1", 7, 3, 1, 0, 5);
    }

    private static void bellSign() {
        Check.sentence("a BIT is the sign (1: minus); for y 0 and minus, anew");
        Desks.draws("0 1 1 0 1 0 1", 7, 3, 1, 0, 0);
        Desks.draws("0 1 1 0 1 1 0 1 0 1", 7, 3, 1, 0, 0);
        Desks.draws("1 1 1 1 1", 7, 3, 1, 0, -1);
        Desks.draws("0 01 1 1 1", 7, 3, 1, 0, -2);
    }

    private static void bellBeyondAnInt() {
        Check.sentence("EXPONENTIAL COIN of (y * den * t - num) squared by 2 * num * den * t * t");
        // t 32, u 0, v 47: y 1504, 47128 squared is 2221048384, by 2048000: 1084 whole ones, and 0.49.. is left
        Desks.draws(zeros(5) + "01".repeat(47) + "1" + "0" + "01".repeat(1084) + "1", 7, 1000, 1, 0, 1504);
        Desks.draws(zeros(5) + "01".repeat(47) + "1" + "1" + "01".repeat(1084) + "1", 7, 1000, 1, 0, -1504);
    }

    private static int[] upTo(int n) {
        int[] row = new int[n];
        Arrays.setAll(row, i -> i);
        return row;
    }

    /** The bits by which each UNIFORM i + 1 of a shuffle, from n - 1 down to 1, is i: nothing moves. */
    private static String stayingBits(int n) {
        StringBuilder bits = new StringBuilder();
        for (int i = n - 1; i >= 1; i--) {
            bits.append(Integer.toBinaryString(i));
        }
        return bits.toString();
    }

    private static void shuffle() {
        Check.sentence("SHUFFLE n: items 0 .. n - 1 in order; for i from n - 1 down to 1 the items at i and at UNIFORM "
                + "i + 1 change places.");
        Desks.drawsItems("", 9, 0, 0);
        Desks.drawsItems("", 9, 1, 0, 0);
        Desks.drawsItems("0", 9, 2, 0, 1, 0);
        Desks.drawsItems("1", 9, 2, 0, 0, 1);
        Desks.drawsItems("10 1", 9, 3, 0, 0, 1, 2);
        Desks.drawsItems("11 10 1", 9, 3, 0, 0, 1, 2);
        Desks.drawsItems(stayingBits(256), 9, 256, 0, upTo(256));
        // each changes places with the first: 255 comes to 0 and from there to 254, and so on
        int[] turned = new int[256];
        Arrays.setAll(turned, i -> (i + 1) % 256);
        Desks.drawsItems(zeros(stayingBits(256).length()), 9, 256, 0, turned);
    }

    private static void subset() {
        Check.sentence("SUBSET n, k: for i from 0 to n - 1 a COIN with chance of how many are still wanted by n - i; "
                + "when 1, i is the next item.");
        Desks.drawsItems("", 10, 0, 0);
        Desks.drawsItems("", 10, 1, 0);
        Desks.drawsItems("", 10, 1, 1, 0);
        Desks.drawsItems("", 10, 256, 0);
        Desks.drawsItems("", 10, 256, 256, upTo(256));
        // the first of 256 is wanted, and no more coin needs a bit
        Desks.drawsItems(zeros(8), 10, 256, 1, 0);
        // all but one: the first of two is left out, and the others are sure
        Desks.drawsItems("1", 10, 2, 1, 1);
        Desks.drawsItems(ones(8), 10, 256, 255, Arrays.copyOfRange(upTo(256), 1, 256));
    }

    private static int[] steps(int n, boolean upAtOnce) {
        int[] row = new int[2 * n];
        Arrays.setAll(row, i -> upAtOnce ? (i < n ? 1 : 0) : (i + 1) % 2);
        return row;
    }

    /** What draws of n steps up read of a tape of zeros, where every coin is 1 that can be. */
    private static int bitsUpAtOnce(int n) {
        int bits = 0;
        for (int h = 1; h < n; h++) {
            int r = 2 * n - h;
            int num = (h + 2) * (r - h);
            int den = 2 * (h + 1) * r;
            for (boolean open = true; open; bits++) {
                num += num;
                open = num < den;
            }
        }
        return bits;
    }

    private static void path() {
        Check.sentence("PATH n: 2 * n steps, 1 up and 0 down, that never go below 0 and end there");
        Desks.drawsItems("", 11, 0, 0);
        Desks.drawsItems("", 11, 1, 0, 1, 0);
        // n 2: at height 1 with 3 steps left a COIN of 6 by 12; all others are sure
        Desks.drawsItems("0", 11, 2, 0, 1, 1, 0, 0);
        Desks.drawsItems("1", 11, 2, 0, 1, 0, 1, 0);
        Desks.drawsItems(zeros(bitsUpAtOnce(128)), 11, 128, 0, steps(128, true));
        SampleDesk x = Desks.full(-1);
        Check.due("a path from ones alone", x.draw(11, 128, 0, 0), 256);
        int[] low = steps(128, false);
        for (int i = 0; i < 256; i++) {
            Check.due("step " + i + ", up from 0 and down again", x.item(i), low[i]);
        }
    }

    private static void pathCoins() {
        Check.sentence("with r steps left and height h a COIN of (h + 2) * (r - h) by 2 * (h + 1) * r is the next "
                + "item.");
        // n 3: h 1, r 5: 12 by 20 (0.1001..); h 2, r 4: 8 by 24 (0.0101..); h 1, r 3: 6 by 12
        Desks.drawsItems("0 00", 11, 3, 0, 1, 1, 1, 0, 0, 0);
        Desks.drawsItems("0 1 0", 11, 3, 0, 1, 1, 0, 1, 0, 0);
        Desks.drawsItems("0 1 1", 11, 3, 0, 1, 1, 0, 0, 1, 0);
        Desks.drawsItems("11 0", 11, 3, 0, 1, 0, 1, 1, 0, 0);
        Desks.drawsItems("11 1", 11, 3, 0, 1, 0, 1, 0, 1, 0);
    }

    private static void tree() {
        Check.sentence("TREE n: a PATH; for each step up, in order, half the number of steps between it and the step "
                + "that comes down from it again is an item");
        Desks.drawsItems("", 12, 0, 0);
        Desks.drawsItems("", 12, 1, 0, 0);
        Desks.drawsItems("0", 12, 2, 0, 1, 0);
        Desks.drawsItems("1", 12, 2, 0, 0, 0);
        int[] chain = new int[128];
        Arrays.setAll(chain, i -> 127 - i);
        Desks.drawsItems(zeros(bitsUpAtOnce(128)), 12, 128, 0, chain);
        SampleDesk x = Desks.full(-1);
        Check.due("a tree from ones alone", x.draw(12, 128, 0, 0), 128);
        for (int i = 0; i < 128; i++) {
            Check.due("left of node " + i, x.item(i), 0);
        }
        Check.refuses("node 128", Check.INDEX, () -> x.item(128));
    }

    private static void stratum() {
        Check.sentence("STRATUM size, arms: a SHUFFLE of size, each item modulo arms.");
        Desks.drawsItems("", 13, 0, 1);
        Desks.drawsItems("", 13, 0, MOST);
        Desks.drawsItems("", 13, 1, 1, 0);
        Desks.drawsItems("0", 13, 2, 1, 0, 0);
        Desks.drawsItems("0", 13, 2, 2, 1, 0);
        String stay = stayingBits(256);
        Desks.drawsItems(stay, 13, 256, 256, upTo(256));
        Desks.drawsItems(stay, 13, 256, 1, new int[256]);
        int[] halves = new int[256];
        Arrays.setAll(halves, i -> i % 128);
        Desks.drawsItems(stay, 13, 256, 128, halves);
    }
}
