import java.math.BigInteger;
import java.util.ArrayList;
import java.util.Arrays;
import java.util.List;
import java.util.NoSuchElementException;

/**
 * The document told a second time, without regard for room or speed: texts for bits, big numbers, an exception when
 * bits end, and each string of a length tried by itself. It shares no code with the class under test.
 */
final class Oracle {
    private final StringBuilder tape = new StringBuilder();
    private int place = 0;
    private final int[][] weights = new int[8][64];
    private final int[] built = {-1, -1, -1, -1, -1, -1, -1, -1};
    private final long[][] limits = new long[8][];
    private final int[][] aliases = new int[8][];
    private final List<Entry> entries = new ArrayList<>();
    private int draws = 0;
    private int latestBits = 0;
    private List<Integer> items = List.of();

    private record Entry(int kind, int a, int b, int c, int place, int bits, long answer, long check) {
    }

    /** One draw: its answer, its items, and how far it read. */
    private static final class Run {
        final CharSequence bits;
        int at;
        List<Integer> row = new ArrayList<>();
        long answer;

        Run(CharSequence bits, int at) {
            this.bits = bits;
            this.at = at;
        }

        int bit() {
            if (at >= bits.length()) {
                throw new NoSuchElementException();
            }
            return bits.charAt(at++) - '0';
        }
    }

    // ---- how is drawn

    private static BigInteger uniform(Run in, BigInteger n) {
        BigInteger m = BigInteger.ONE;
        BigInteger v = BigInteger.ZERO;
        while (true) {
            while (m.compareTo(n) < 0) {
                m = m.shiftLeft(1);
                v = v.shiftLeft(1).add(BigInteger.valueOf(in.bit()));
            }
            if (v.compareTo(n) < 0) {
                return v;
            }
            m = m.subtract(n);
            v = v.subtract(n);
        }
    }

    private static int uniform(Run in, long n) {
        return uniform(in, BigInteger.valueOf(n)).intValueExact();
    }

    private static int coin(Run in, BigInteger num, BigInteger den) {
        if (num.signum() == 0) {
            return 0;
        }
        if (num.equals(den)) {
            return 1;
        }
        BigInteger r = num;
        while (true) {
            r = r.shiftLeft(1);
            int digit = 0;
            if (r.compareTo(den) >= 0) {
                digit = 1;
                r = r.subtract(den);
            }
            int bit = in.bit();
            if (bit < digit) {
                return 1;
            }
            if (bit > digit) {
                return 0;
            }
            if (r.signum() == 0) {
                return 0;
            }
        }
    }

    private static int coin(Run in, long num, long den) {
        return coin(in, BigInteger.valueOf(num), BigInteger.valueOf(den));
    }

    private static int unitExponential(Run in, BigInteger num, BigInteger den) {
        int k = 1;
        while (coin(in, num, den.multiply(BigInteger.valueOf(k))) == 1) {
            k++;
        }
        return k % 2 == 1 ? 1 : 0;
    }

    private static int exponential(Run in, BigInteger num, BigInteger den) {
        BigInteger[] parts = num.divideAndRemainder(den);
        for (BigInteger i = BigInteger.ZERO; i.compareTo(parts[0]) < 0; i = i.add(BigInteger.ONE)) {
            if (unitExponential(in, BigInteger.ONE, BigInteger.ONE) == 0) {
                return 0;
            }
        }
        return unitExponential(in, parts[1], den);
    }

    private int fromTable(Run in, int table) {
        long sum = Arrays.stream(weights[table]).asLongStream().sum();
        if (built[table] == 1) {
            int c = uniform(in, limits[table].length);
            return coin(in, limits[table][c], sum) == 1 ? c : aliases[table][c];
        }
        long[] r = Arrays.stream(weights[table]).asLongStream().toArray();
        for (int i = 0; i < 64; i++) {
            if (r[i] == sum) {
                return i;
            }
        }
        int d = 0;
        while (true) {
            d = 2 * d + in.bit();
            for (int i = 0; i < 64; i++) {
                r[i] *= 2;
                if (r[i] >= sum) {
                    r[i] -= sum;
                    if (d == 0) {
                        return i;
                    }
                    d--;
                }
            }
        }
    }

    private static int poisson(Run in, long num, long den) {
        if (num == 0) {
            return 0;
        }
        long t = 0;
        while (t * den < 2 * num) {
            t++;
        }
        int sum = 0;
        for (long time = 0; time < t; time++) {
            boolean again = true;
            while (again) {
                int n = 0;
                while (coin(in, num, t * den) == 1) {
                    n++;
                }
                again = false;
                for (int m = 2; m <= n && !again; m++) {
                    again = uniform(in, m) != 0;
                }
                if (!again) {
                    sum += n;
                }
            }
        }
        return sum;
    }

    private static long bell(Run in, long num, long den) {
        long t = (long) Math.floor(Math.sqrt(num / den)) + 1;
        BigInteger one = BigInteger.ONE;
        while (true) {
            int u = uniform(in, t);
            if (exponential(in, BigInteger.valueOf(u), BigInteger.valueOf(t)) == 0) {
                continue;
            }
            int v = 0;
            while (unitExponential(in, one, one) == 1) {
                v++;
            }
            long y = u + t * v;
            int sign = in.bit();
            if (y == 0 && sign == 1) {
                continue;
            }
            BigInteger top = BigInteger.valueOf(y * den * t - num).pow(2);
            if (exponential(in, top, BigInteger.valueOf(2 * num * den * t * t)) == 1) {
                return sign == 1 ? -y : y;
            }
        }
    }

    private static int hyper(Run in, int a, int b, int k) {
        int counted = 0;
        for (int i = 0; i < k; i++) {
            if (coin(in, a, a + b) == 1) {
                a--;
                counted++;
            } else {
                b--;
            }
        }
        return counted;
    }

    private static int geometric(Run in, int num, int den, int cap) {
        int zeros = 0;
        while (zeros < cap && coin(in, num, den) == 0) {
            zeros++;
        }
        return zeros;
    }

    private static List<Integer> shuffle(Run in, int n) {
        List<Integer> row = new ArrayList<>();
        for (int i = 0; i < n; i++) {
            row.add(i);
        }
        for (int i = n - 1; i >= 1; i--) {
            java.util.Collections.swap(row, i, uniform(in, i + 1));
        }
        return row;
    }

    private static List<Integer> path(Run in, int n) {
        List<Integer> row = new ArrayList<>();
        int h = 0;
        for (int r = 2 * n; r > 0; r--) {
            int step = coin(in, (long) (h + 2) * (r - h), 2L * (h + 1) * r);
            row.add(step);
            h += 2 * step - 1;
        }
        return row;
    }

    private static List<Integer> tree(List<Integer> path) {
        List<Integer> sizes = new ArrayList<>();
        for (int p = 0; p < path.size(); p++) {
            if (path.get(p) == 1) {
                int height = 1;
                int q = p;
                while (height > 0) {
                    q++;
                    height += path.get(q) == 1 ? 1 : -1;
                }
                sizes.add((q - p - 1) / 2);
            }
        }
        return sizes;
    }

    private Run run(CharSequence bits, int from, int kind, int a, int b, int c) {
        Run in = new Run(bits, from);
        switch (kind) {
            case 0 -> in.answer = fromTable(in, a);
            case 1 -> in.answer = uniform(in, BigInteger.TWO.pow(31).multiply(BigInteger.valueOf(b))
                    .add(BigInteger.valueOf(a))).longValueExact();
            case 2 -> in.answer = coin(in, a, b);
            case 3 -> {
                for (int i = 0; i < a; i++) {
                    in.answer += coin(in, b, c);
                }
            }
            case 4 -> in.answer = geometric(in, a, b, c);
            case 5 -> in.answer = poisson(in, a, b);
            case 6 -> in.answer = hyper(in, a, b, c);
            case 7 -> in.answer = bell(in, a, b);
            case 8 -> in.answer = exponential(in, BigInteger.valueOf(a), BigInteger.valueOf(b));
            case 9 -> in.row = shuffle(in, a);
            case 10 -> {
                int wanted = b;
                for (int i = 0; i < a; i++) {
                    if (coin(in, wanted, a - i) == 1) {
                        in.row.add(i);
                        wanted--;
                    }
                }
            }
            case 11 -> in.row = path(in, a);
            case 12 -> in.row = tree(path(in, a));
            default -> {
                for (int x : shuffle(in, a)) {
                    in.row.add(x % b);
                }
            }
        }
        if (kind >= 9) {
            in.answer = in.row.size();
        }
        return in;
    }

    private static long check(List<Integer> row) {
        long sum = 0;
        for (int i = 0; i < row.size(); i++) {
            sum += (i + 1L) * row.get(i);
        }
        return sum % 1000003;
    }

    private static boolean chance(long num, long den) {
        return num >= 0 && den >= 1 && num <= den;
    }

    private static boolean among(long number, long least, long most) {
        return least <= number && number <= most;
    }

    private void look(int kind, int a, int b, int c, boolean lengthIsFine) {
        boolean fine = switch (kind) {
            case 0 -> among(a, 0, 7);
            case 1 -> a >= 0 && among(b, 0, 511) && (a > 0 || b > 0);
            case 2 -> chance(a, b);
            case 3 -> among(a, 0, 1000) && chance(b, c);
            case 4 -> chance(a, b) && among(c, 0, 100000);
            case 5 -> a >= 0 && b >= 1 && a <= 64L * b;
            case 6 -> among(a, 0, 100000) && among(b, 0, 100000) && among(c, 0, a + b);
            case 7 -> among(a, 1, 1000) && among(b, 1, 10);
            case 8 -> a >= 0 && b >= 1 && a <= 1000L * b;
            case 9 -> among(a, 0, 256);
            case 10 -> among(a, 0, 256) && among(b, 0, a);
            case 11, 12 -> among(a, 0, 128);
            case 13 -> among(a, 0, 256) && b >= 1 && a % b == 0;
            default -> false;
        };
        if (!fine || !lengthIsFine) {
            throw new IllegalArgumentException();
        }
        if (kind == 0 && built[a] < 0) {
            throw new IllegalStateException();
        }
    }

    // ---- the face

    int feed(int a, int b, int c, int d) {
        if (tape.length() + 128 > 16384) {
            throw new IllegalStateException();
        }
        for (int word : new int[] {a, b, c, d}) {
            String digits = Integer.toBinaryString(word);
            tape.append("0".repeat(32 - digits.length())).append(digits);
        }
        return tape.length();
    }

    int bit(int at, int bit) {
        if (!among(at, 0, tape.length() - 1)) {
            throw new IndexOutOfBoundsException();
        }
        if (!among(bit, 0, 1)) {
            throw new IllegalArgumentException();
        }
        int before = tape.charAt(at) - '0';
        tape.setCharAt(at, (char) ('0' + bit));
        return before;
    }

    int rewind(int at) {
        if (!among(at, 0, tape.length())) {
            throw new IndexOutOfBoundsException();
        }
        int before = place;
        place = at;
        return before;
    }

    int weight(int table, int i, int w) {
        if (!among(table, 0, 7) || !among(i, 0, 63)) {
            throw new IndexOutOfBoundsException();
        }
        if (w < 0) {
            throw new IllegalArgumentException();
        }
        int before = weights[table][i];
        weights[table][i] = w;
        built[table] = -1;
        return before;
    }

    long build(int table, int method) {
        if (!among(table, 0, 7)) {
            throw new IndexOutOfBoundsException();
        }
        if (!among(method, 0, 1)) {
            throw new IllegalArgumentException();
        }
        long sum = Arrays.stream(weights[table]).asLongStream().sum();
        if (sum == 0) {
            throw new IllegalStateException();
        }
        built[table] = method;
        if (method == 1) {
            pair(table, sum);
        }
        return sum;
    }

    private void pair(int table, long sum) {
        int n = 64;
        while (weights[table][n - 1] == 0) {
            n--;
        }
        long[] share = new long[n];
        long[] limit = new long[n];
        int[] alias = new int[n];
        List<Integer> small = new ArrayList<>();
        List<Integer> large = new ArrayList<>();
        for (int i = 0; i < n; i++) {
            share[i] = (long) n * weights[table][i];
            alias[i] = i;
            (share[i] < sum ? small : large).add(i);
        }
        while (!small.isEmpty()) {
            int i = small.remove(0);
            int j = large.get(0);
            limit[i] = share[i];
            alias[i] = j;
            share[j] -= sum - share[i];
            if (share[j] < sum) {
                small.add(large.remove(0));
            }
        }
        for (int j : large) {
            limit[j] = sum;
        }
        limits[table] = limit;
        aliases[table] = alias;
    }

    long alias(int table, int i, int what) {
        if (!among(table, 0, 7)) {
            throw new IndexOutOfBoundsException();
        }
        if (built[table] != 1) {
            throw new IllegalStateException();
        }
        if (!among(i, 0, limits[table].length - 1) || !among(what, 0, 1)) {
            throw new IndexOutOfBoundsException();
        }
        return what == 0 ? limits[table][i] : aliases[table][i];
    }

    long draw(int kind, int a, int b, int c) {
        look(kind, a, b, c, true);
        Run in = run(tape, place, kind, a, b, c);
        latestBits = in.at - place;
        entries.add(new Entry(kind, a, b, c, place, latestBits, in.answer, check(in.row)));
        if (entries.size() > 100) {
            entries.remove(0);
        }
        place = in.at;
        draws++;
        if (kind >= 9) {
            items = in.row;
        }
        return in.answer;
    }

    int item(int i) {
        if (!among(i, 0, items.size() - 1)) {
            throw new IndexOutOfBoundsException();
        }
        return items.get(i);
    }

    int decided(int kind, int a, int b, int c, int length, int outcome) {
        return strings(kind, a, b, c, length, (long) outcome);
    }

    int undecided(int kind, int a, int b, int c, int length) {
        return strings(kind, a, b, c, length, null);
    }

    private int strings(int kind, int a, int b, int c, int length, Long outcome) {
        look(kind, a, b, c, among(length, 0, 12) && kind <= 8);
        int found = 0;
        for (int s = 0; s < 1 << length; s++) {
            String bits = Integer.toBinaryString((1 << length) + s).substring(1);
            Long got;
            try {
                got = run(bits, 0, kind, a, b, c).answer;
            } catch (NoSuchElementException e) {
                got = null;
            }
            if (java.util.Objects.equals(got, outcome)) {
                found++;
            }
        }
        return found;
    }

    private Entry entry(int i) {
        if (!among(i, 0, entries.size() - 1)) {
            throw new IndexOutOfBoundsException();
        }
        return entries.get(i);
    }

    long journal(int i, int what) {
        Entry e = entry(i);
        return switch (what) {
            case 0 -> e.kind;
            case 1 -> e.a;
            case 2 -> e.b;
            case 3 -> e.c;
            case 4 -> e.place;
            case 5 -> e.bits;
            case 6 -> e.answer;
            default -> throw new IndexOutOfBoundsException();
        };
    }

    boolean replay(int i) {
        Entry e = entry(i);
        if (e.kind == 0 && built[e.a] < 0) {
            return false;
        }
        try {
            Run in = run(tape, e.place, e.kind, e.a, e.b, e.c);
            return in.at - e.place == e.bits && in.answer == e.answer && check(in.row) == e.check;
        } catch (NoSuchElementException ended) {
            return false;
        }
    }

    int count(int what) {
        return switch (what) {
            case 0 -> tape.length();
            case 1 -> place;
            case 2 -> latestBits;
            case 3 -> entries.size();
            case 4 -> draws;
            default -> -1;
        };
    }
}
