import java.util.Random;
import java.util.concurrent.Callable;

/** Long runs of calls, right and wrong ones, on the class and on the oracle: every answer is the same. */
public final class OracleTest {
    private static final int RUNS = 600;
    private static final int CALLS = 512;

    private final Random random;
    private final SampleDesk desk = new SampleDesk();
    private final Oracle oracle = new Oracle();
    private final int run;
    private int kind;
    private int a;
    private int b;
    private int c;

    private OracleTest(int run) {
        this.run = run;
        this.random = new Random(run);
    }

    public static void main(String[] args) {
        for (int run = 0; run < RUNS; run++) {
            new OracleTest(run).go();
        }
        Check.end();
    }

    private void go() {
        int feeds = random.nextInt(12);
        int flavour = random.nextInt(4);
        for (int i = 0; i < feeds; i++) {
            feed(flavour);
        }
        for (int i = feeds; i < CALLS; i++) {
            step(flavour);
        }
    }

    private void compare(String call, Callable<?> got, Callable<?> due) {
        Check.same("run " + run + ": " + call, Check.outcome(got), Check.outcome(due));
    }

    private void step(int flavour) {
        int dice = random.nextInt(100);
        if (dice < 34) {
            order();
            compare("draw(" + told() + ")", () -> desk.draw(kind, a, b, c), () -> oracle.draw(kind, a, b, c));
        } else if (dice < 42) {
            int i = near(0, 12);
            compare("item(" + i + ")", () -> desk.item(i), () -> oracle.item(i));
        } else if (dice < 54) {
            weightOrBuild();
        } else if (dice < 60) {
            int table = near(0, 3);
            int i = near(0, 7);
            int what = near(0, 1);
            compare("alias(" + table + ", " + i + ", " + what + ")", () -> desk.alias(table, i, what),
                    () -> oracle.alias(table, i, what));
        } else if (dice < 66) {
            strings();
        } else if (dice < 74) {
            int i = near(0, 99);
            int what = near(0, 6);
            compare("journal(" + i + ", " + what + ")", () -> desk.journal(i, what), () -> oracle.journal(i, what));
        } else if (dice < 82) {
            int i = near(0, Math.max(0, oracle.count(3) - 1));
            compare("replay(" + i + ")", () -> desk.replay(i), () -> oracle.replay(i));
        } else if (dice < 92) {
            int what = near(0, 4);
            compare("count(" + what + ")", () -> desk.count(what), () -> oracle.count(what));
        } else {
            tape(flavour);
        }
    }

    private void tape(int flavour) {
        int at = near(0, oracle.count(0));
        switch (random.nextInt(4)) {
            case 0 -> compare("rewind(" + at + ")", () -> desk.rewind(at), () -> oracle.rewind(at));
            case 1, 2 -> {
                int bit = near(0, 1);
                compare("bit(" + at + ", " + bit + ")", () -> desk.bit(at, bit), () -> oracle.bit(at, bit));
            }
            default -> feed(flavour);
        }
    }

    private void feed(int flavour) {
        int[] w = new int[4];
        for (int i = 0; i < 4; i++) {
            w[i] = switch (flavour) {
                case 0 -> random.nextInt() & random.nextInt();
                case 1 -> random.nextInt() | random.nextInt();
                default -> random.nextInt();
            };
        }
        compare("feed", () -> desk.feed(w[0], w[1], w[2], w[3]), () -> oracle.feed(w[0], w[1], w[2], w[3]));
    }

    private void weightOrBuild() {
        int table = near(0, 3);
        if (random.nextInt(3) == 0) {
            int method = near(0, 1);
            compare("build(" + table + ", " + method + ")", () -> desk.build(table, method),
                    () -> oracle.build(table, method));
            return;
        }
        int i = random.nextInt(8) == 0 ? near(0, 63) : near(0, 7);
        int w = switch (random.nextInt(6)) {
            case 0 -> 0;
            case 1 -> random.nextInt(Integer.MAX_VALUE);
            case 2 -> Integer.MAX_VALUE - random.nextInt(2);
            default -> near(0, 20);
        };
        compare("weight(" + table + ", " + i + ", " + w + ")", () -> desk.weight(table, i, w),
                () -> oracle.weight(table, i, w));
    }

    private void strings() {
        order();
        if (kind > 8 && random.nextInt(4) != 0) {
            kind = random.nextInt(9);
        }
        int length = random.nextInt(12) == 0 ? near(0, 12) : random.nextInt(9);
        int outcome = random.nextInt(12) == 0 ? random.nextInt() : near(-1, 4);
        compare("decided(" + told() + ", " + length + ", " + outcome + ")",
                () -> desk.decided(kind, a, b, c, length, outcome),
                () -> oracle.decided(kind, a, b, c, length, outcome));
        compare("undecided(" + told() + ", " + length + ")", () -> desk.undecided(kind, a, b, c, length),
                () -> oracle.undecided(kind, a, b, c, length));
    }

    /** Mostly from least to most, often one of the two, now and then just outside or far away. */
    private int near(int least, int most) {
        return switch (random.nextInt(40)) {
            case 0 -> least - 1;
            case 1 -> most + 1;
            case 2, 3 -> least;
            case 4, 5 -> most;
            case 6 -> random.nextInt(8) == 0 ? random.nextInt() : most;
            default -> least + random.nextInt(most - least + 1);
        };
    }

    private String told() {
        return kind + ", " + a + ", " + b + ", " + c;
    }

    private void order() {
        kind = near(0, 13);
        a = near(0, 9);
        b = near(0, 9);
        c = near(0, 9);
        switch (kind) {
            case 0 -> a = near(0, 3);
            case 1 -> {
                a = random.nextBoolean() ? near(0, Integer.MAX_VALUE - 1) : near(0, 40);
                b = random.nextInt(3) == 0 ? near(0, 511) : 0;
            }
            case 2 -> chanceInAB();
            case 3 -> {
                chanceInAB();
                c = b;
                b = a;
                a = random.nextInt(10) == 0 ? near(0, 1000) : near(0, 12);
            }
            case 4 -> {
                chanceInAB();
                c = random.nextInt(10) == 0 ? near(0, 100000) : near(0, 12);
            }
            case 5 -> ratioInAB(random.nextInt(6) == 0 ? 64 : 3);
            case 6 -> {
                int size = random.nextInt(10) == 0 ? 100000 : 9;
                a = near(0, size);
                b = near(0, size);
                c = near(0, Math.max(0, Math.min(a + b, random.nextBoolean() ? 10 : 200000)));
            }
            case 7 -> {
                a = random.nextInt(3) == 0 ? near(1, 1000) : near(1, 20);
                b = near(1, 10);
            }
            case 8 -> ratioInAB(random.nextInt(6) == 0 ? 1000 : 2);
            case 9, 11, 12 -> a = random.nextInt(8) == 0 ? near(0, kind == 9 ? 256 : 128) : near(0, 12);
            case 10 -> {
                a = random.nextInt(8) == 0 ? near(0, 256) : near(0, 12);
                b = near(0, Math.max(0, a));
            }
            case 13 -> {
                b = near(1, 6);
                a = random.nextInt(6) == 0 ? near(0, 256) : b * near(0, 6);
            }
            default -> {
            }
        }
    }

    private void chanceInAB() {
        ratioInAB(1);
    }

    private void ratioInAB(int most) {
        b = random.nextInt(6) == 0 ? Integer.MAX_VALUE - random.nextInt(3) : near(1, 12);
        a = near(0, (int) Math.max(0, Math.min(Integer.MAX_VALUE - 1, (long) most * b)));
    }
}
