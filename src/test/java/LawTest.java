import java.util.HashMap;
import java.util.Map;
import java.util.NoSuchElementException;

/**
 * The laws themselves: whatever strings of a length are decided can't be more than the chance of an outcome, and with
 * the undecided ones they can't be less; and rows of items that are equally likely are decided about equally often.
 */
public final class LawTest {
    private static final double SLACK = 1e-9;

    public static void main(String[] args) {
        coins();
        exponentialCoins();
        uniforms();
        binomials();
        geometrics();
        hypers();
        poissons();
        bells();
        tables();
        rows();
        Check.end();
    }

    private interface Law {
        double chance(int outcome);
    }

    private static void encloses(SampleDesk x, int kind, int a, int b, int c, int least, int most, Law law) {
        for (int length : new int[] {0, 1, 4, 7, 10, 12}) {
            double strings = 1 << length;
            int open = x.undecided(kind, a, b, c, length);
            int all = open;
            for (int outcome = least; outcome <= most; outcome++) {
                int found = x.decided(kind, a, b, c, length, outcome);
                all += found;
                double chance = law.chance(outcome);
                Check.holds("draw(" + kind + ", " + a + ", " + b + ", " + c + ") gives " + outcome + " by " + found
                        + " of 2^" + length + ", open " + open + ", chance " + chance,
                        found <= chance * strings + SLACK && chance * strings <= found + open + SLACK);
            }
            Check.holds("outcomes beyond " + least + " .. " + most, all <= strings);
        }
    }

    private static void encloses(int kind, int a, int b, int c, int least, int most, Law law) {
        encloses(new SampleDesk(), kind, a, b, c, least, most, law);
    }

    private static void coins() {
        int[][] chances = {{0, 1}, {1, 1}, {1, 2}, {1, 3}, {2, 3}, {5, 7}, {1, 100}, {99, 100}, {3, 1024}};
        for (int[] p : chances) {
            double one = (double) p[0] / p[1];
            encloses(2, p[0], p[1], 0, 0, 1, o -> o == 1 ? one : 1 - one);
        }
    }

    private static void exponentialCoins() {
        int[][] numbers = {{0, 1}, {1, 1}, {1, 2}, {1, 10}, {9, 10}, {3, 2}, {2, 1}, {7, 3}, {5, 1}, {1000, 1}};
        for (int[] p : numbers) {
            double one = Math.exp(-(double) p[0] / p[1]);
            encloses(8, p[0], p[1], 0, 0, 1, o -> o == 1 ? one : 1 - one);
        }
    }

    private static void uniforms() {
        for (int n = 1; n <= 40; n++) {
            double each = 1.0 / n;
            encloses(1, n, 0, 0, 0, n - 1, o -> each);
        }
    }

    private static double choose(int n, int k) {
        double ways = 1;
        for (int i = 0; i < k; i++) {
            ways = ways * (n - i) / (i + 1);
        }
        return k < 0 || k > n ? 0 : ways;
    }

    private static void binomials() {
        int[][] numbers = {{0, 1, 2}, {1, 1, 3}, {4, 1, 2}, {5, 2, 3}, {6, 1, 6}, {9, 9, 10}};
        for (int[] p : numbers) {
            int n = p[0];
            double one = (double) p[1] / p[2];
            encloses(3, n, p[1], p[2], 0, n, o -> choose(n, o) * Math.pow(one, o) * Math.pow(1 - one, n - o));
        }
    }

    private static void geometrics() {
        int[][] numbers = {{1, 2, 5}, {1, 3, 3}, {4, 5, 2}, {1, 7, 9}, {0, 1, 4}, {1, 1, 4}, {2, 5, 0}};
        for (int[] p : numbers) {
            double one = (double) p[0] / p[1];
            int cap = p[2];
            encloses(4, p[0], p[1], cap, 0, cap, o -> Math.pow(1 - one, o) * (o == cap ? 1 : one));
        }
    }

    private static void hypers() {
        int[][] numbers = {{1, 1, 1}, {3, 4, 2}, {2, 5, 3}, {6, 1, 5}, {3, 3, 6}, {0, 4, 2}, {4, 0, 2}};
        for (int[] p : numbers) {
            int a = p[0];
            int b = p[1];
            int k = p[2];
            encloses(6, a, b, k, 0, k, o -> choose(a, o) * choose(b, k - o) / choose(a + b, k));
        }
    }

    private static void poissons() {
        int[][] numbers = {{0, 1}, {1, 10}, {1, 2}, {1, 1}, {3, 2}, {2, 3}, {5, 2}};
        for (int[] p : numbers) {
            double mean = (double) p[0] / p[1];
            encloses(5, p[0], p[1], 0, 0, 12, o -> {
                double chance = Math.exp(-mean);
                for (int i = 1; i <= o; i++) {
                    chance *= mean / i;
                }
                return chance;
            });
        }
    }

    private static void bells() {
        int[][] numbers = {{1, 10}, {1, 2}, {1, 1}, {3, 2}, {4, 1}, {5, 2}, {9, 1}};
        for (int[] p : numbers) {
            double variance = (double) p[0] / p[1];
            double sum = 0;
            for (int y = -200; y <= 200; y++) {
                sum += Math.exp(-y * y / (2 * variance));
            }
            double all = sum;
            encloses(7, p[0], p[1], 0, -12, 12, o -> Math.exp(-o * o / (2 * variance)) / all);
        }
    }

    private static void tables() {
        int[][] tables = {{1, 2, 4}, {1, 1, 1}, {5, 1, 0, 6}, {0, 0, 3, 0, 3}, {7}, {10, 20, 30, 40, 1, 2, 3},
            {Integer.MAX_VALUE, 1, Integer.MAX_VALUE}};
        for (int[] weights : tables) {
            SampleDesk x = new SampleDesk();
            double sum = 0;
            for (int i = 0; i < weights.length; i++) {
                x.weight(4, i, weights[i]);
                sum += weights[i];
            }
            double all = sum;
            for (int method = 0; method <= 1; method++) {
                x.build(4, method);
                encloses(x, 0, 4, 0, 0, 0, weights.length - 1, o -> weights[o] / all);
            }
        }
    }

    /** Draws from each string of 14 bits and tells how many strings give each row of items. */
    private static Map<String, Integer> rowsOf(int kind, int a, int b) {
        Map<String, Integer> found = new HashMap<>();
        for (int s = 0; s < 1 << 14; s++) {
            SampleDesk x = new SampleDesk();
            x.feed(0, 0, 0, s);
            x.rewind(114);
            String row;
            try {
                long size = x.draw(kind, a, b, 0);
                StringBuilder told = new StringBuilder();
                for (int i = 0; i < size; i++) {
                    told.append(x.item(i)).append(' ');
                }
                row = told.toString();
            } catch (NoSuchElementException e) {
                row = "open";
            }
            found.merge(row, 1, Integer::sum);
        }
        return found;
    }

    private static void equallyOften(int kind, int a, int b, int kinds) {
        Map<String, Integer> found = rowsOf(kind, a, b);
        int open = found.getOrDefault("open", 0);
        found.remove("open");
        Check.due("different rows of kind " + kind + " of " + a, found.size(), kinds);
        double each = (1 << 14) / (double) kinds;
        for (Map.Entry<String, Integer> row : found.entrySet()) {
            Check.holds("kind " + kind + " gives " + row + ", open " + open,
                    row.getValue() <= each + SLACK && each <= row.getValue() + open + SLACK);
        }
    }

    private static void rows() {
        equallyOften(9, 3, 0, 6);
        equallyOften(9, 4, 0, 24);
        equallyOften(10, 5, 2, 10);
        equallyOften(10, 4, 3, 4);
        equallyOften(11, 3, 0, 5);
        equallyOften(11, 4, 0, 14);
        equallyOften(12, 3, 0, 5);
        equallyOften(12, 4, 0, 14);
        equallyOften(13, 4, 2, 6);
    }
}
