import java.util.NoSuchElementException;

/**
 * Draws from many laws by a tape of bits, so that an auditor who has the tape can go over every draw again.
 *
 * <p>No draw inside throws when its bits end: the dice tell that they have run dry, and every loop over them stops.
 * Counting strings lets thousands of draws run dry in one call, and an exception for each would fill the room.
 */
public final class SampleDesk {
    public static final int NONE = -1;

    private static final int TAPE_LIMIT = 16384;
    private static final int WORD = 32;
    private static final int FED = 128;
    private static final int TABLES = 8;
    private static final int NUMBERS = 64;
    private static final int MOST_ITEMS = 256;
    private static final int MOST_UPS = 128;
    private static final int LONGEST_STRING = 12;

    private static final int AS_TREE = 0;
    private static final int WITH_ALIASES = 1;

    private static final int TABLE = 0;
    private static final int UNIFORM = 1;
    private static final int COIN = 2;
    private static final int BINOMIAL = 3;
    private static final int GEOMETRIC = 4;
    private static final int POISSON = 5;
    private static final int HYPER = 6;
    private static final int BELL = 7;
    private static final int EXPONENTIAL_COIN = 8;
    private static final int SHUFFLE = 9;
    private static final int SUBSET = 10;
    private static final int PATH = 11;
    private static final int TREE = 12;
    private static final int STRATUM = 13;

    /** Far above what any loop can need: nearly every round reads a bit, and the tape has 16384. */
    private static final int ROUNDS = 1000000;

    private final Tape tape;
    private final Table[] tables;
    private final Sampler sampler;
    private final Order order;
    private final Log log;
    private final int[] string;
    private final int[] items;
    private int itemCount;
    private int latestBits;

    public SampleDesk() {
        Table[] made = new Table[TABLES];
        for (int i = 0; i < TABLES; i++) {
            made[i] = new Table();
        }
        Dice dice = new Dice();
        tape = new Tape();
        tables = made;
        sampler = new Sampler(made, dice, new Laws(dice), new Rows(dice));
        order = new Order();
        log = new Log();
        string = new int[1];
        items = new int[MOST_ITEMS];
        itemCount = 0;
        latestBits = 0;
    }

    public int feed(int a, int b, int c, int d) throws IllegalStateException {
        if (tape.size + FED > TAPE_LIMIT) {
            throw new IllegalStateException();
        }
        tape.append(a);
        tape.append(b);
        tape.append(c);
        tape.append(d);
        return tape.size;
    }

    public int bit(int at, int bit) throws IndexOutOfBoundsException, IllegalArgumentException {
        if (at < 0 || at >= tape.size) {
            throw new IndexOutOfBoundsException();
        }
        if (bit != 0 && bit != 1) {
            throw new IllegalArgumentException();
        }
        return tape.exchange(at, bit);
    }

    public int rewind(int at) throws IndexOutOfBoundsException {
        if (at < 0 || at > tape.size) {
            throw new IndexOutOfBoundsException();
        }
        int before = tape.place;
        tape.place = at;
        return before;
    }

    public int weight(int table, int i, int w) throws IndexOutOfBoundsException, IllegalArgumentException {
        if (isNoTable(table) || i < 0 || i >= NUMBERS) {
            throw new IndexOutOfBoundsException();
        }
        if (w < 0) {
            throw new IllegalArgumentException();
        }
        return tables[table].exchangeWeight(i, w);
    }

    public long build(int table, int method)
            throws IndexOutOfBoundsException, IllegalArgumentException, IllegalStateException {
        if (isNoTable(table)) {
            throw new IndexOutOfBoundsException();
        }
        if (method != AS_TREE && method != WITH_ALIASES) {
            throw new IllegalArgumentException();
        }
        if (tables[table].sumOfWeights() == 0) {
            throw new IllegalStateException();
        }
        tables[table].prepare(method);
        return tables[table].sum;
    }

    public long alias(int table, int i, int what) throws IndexOutOfBoundsException, IllegalStateException {
        if (isNoTable(table)) {
            throw new IndexOutOfBoundsException();
        }
        if (tables[table].method != WITH_ALIASES) {
            throw new IllegalStateException();
        }
        if (i < 0 || i >= tables[table].top || what < 0 || what > 1) {
            throw new IndexOutOfBoundsException();
        }
        return what == 0 ? tables[table].rests[i] : tables[table].partners[i];
    }

    public long draw(int kind, int a, int b, int c)
            throws IllegalArgumentException, IllegalStateException, NoSuchElementException {
        order.set(kind, a, b, c);
        if (!order.isAllowed()) {
            throw new IllegalArgumentException();
        }
        if (!sampler.isReadyFor(order)) {
            throw new IllegalStateException();
        }
        sampler.dice.open(tape.words, tape.place, tape.size);
        long answer = sampler.answer(order);
        if (sampler.dice.dry) {
            throw new NoSuchElementException();
        }
        keep(answer);
        return answer;
    }

    public int item(int i) throws IndexOutOfBoundsException {
        if (i < 0 || i >= itemCount) {
            throw new IndexOutOfBoundsException();
        }
        return items[i];
    }

    public int decided(int kind, int a, int b, int c, int length, int outcome)
            throws IllegalArgumentException, IllegalStateException {
        order.set(kind, a, b, c);
        requireCountable(length);
        return tally(length, true, outcome);
    }

    public int undecided(int kind, int a, int b, int c, int length)
            throws IllegalArgumentException, IllegalStateException {
        order.set(kind, a, b, c);
        requireCountable(length);
        return tally(length, false, 0);
    }

    public long journal(int i, int what) throws IndexOutOfBoundsException {
        if (i < 0 || i >= log.size || what < 0 || what > Log.ANSWER) {
            throw new IndexOutOfBoundsException();
        }
        return log.cell(i, what);
    }

    public boolean replay(int i) throws IndexOutOfBoundsException {
        if (i < 0 || i >= log.size) {
            throw new IndexOutOfBoundsException();
        }
        order.set((int) log.cell(i, Log.KIND), (int) log.cell(i, Log.A), (int) log.cell(i, Log.B),
                (int) log.cell(i, Log.C));
        if (!sampler.isReadyFor(order)) {
            return false;
        }
        sampler.dice.open(tape.words, (int) log.cell(i, Log.PLACE), tape.size);
        long answer = sampler.answer(order);
        return !sampler.dice.dry
                && sampler.dice.bitsRead() == log.cell(i, Log.BITS)
                && answer == log.cell(i, Log.ANSWER)
                && sampler.rows.checkSum() == log.cell(i, Log.ITEMS);
    }

    public int count(int what) {
        switch (what) {
            case 0:
                return tape.size;
            case 1:
                return tape.place;
            case 2:
                return latestBits;
            case 3:
                return log.size;
            case 4:
                return log.draws;
            default:
                return NONE;
        }
    }

    private static boolean isNoTable(int table) {
        return table < 0 || table >= TABLES;
    }

    private void keep(long answer) {
        latestBits = sampler.dice.bitsRead();
        log.add(order, tape.place, latestBits, answer, sampler.rows.checkSum());
        tape.place += latestBits;
        if (order.kind >= SHUFFLE) {
            itemCount = sampler.rows.size;
            System.arraycopy(sampler.rows.items, 0, items, 0, itemCount);
        }
    }

    private void requireCountable(int length) {
        if (order.kind > EXPONENTIAL_COIN || !order.isAllowed() || length < 0 || length > LONGEST_STRING) {
            throw new IllegalArgumentException();
        }
        if (!sampler.isReadyFor(order)) {
            throw new IllegalStateException();
        }
    }

    /**
     * How many strings decide the order with the outcome, or decide nothing. A draw that a beginning decides is
     * decided so for all strings with that beginning: they follow one another and are passed over together.
     */
    private int tally(int length, boolean decisive, int outcome) {
        int strings = 1 << length;
        int found = 0;
        int alike = 1;
        for (int s = 0; s < strings; s += alike) {
            string[0] = s << (WORD - length);
            sampler.dice.open(string, 0, length);
            long answer = sampler.answer(order);
            boolean open = sampler.dice.dry;
            alike = open ? 1 : Math.max(1, strings >> sampler.dice.bitsRead());
            if (decisive ? !open && answer == outcome : open) {
                found += alike;
            }
        }
        return found;
    }

    /** The bits fed so far, 32 to a word with the highest bit first, and where the next draw reads. */
    private static final class Tape {
        final int[] words = new int[TAPE_LIMIT / WORD];
        int size = 0;
        int place = 0;

        void append(int word) {
            int at = size / WORD;
            if (at < words.length) {
                words[at] = word;
                size += WORD;
            }
        }

        int exchange(int at, int bit) {
            int shift = WORD - 1 - at % WORD;
            int before = (words[at / WORD] >>> shift) & 1;
            words[at / WORD] ^= (before ^ bit) << shift;
            return before;
        }
    }

    /** What is to be drawn. */
    private static final class Order {
        int kind;
        int a;
        int b;
        int c;

        void set(int newKind, int newA, int newB, int newC) {
            kind = newKind;
            a = newA;
            b = newB;
            c = newC;
        }

        boolean isAllowed() {
            switch (kind) {
                case TABLE:
                    return isUpTo(a, TABLES - 1);
                case UNIFORM:
                    return a >= 0 && isUpTo(b, 511) && width() >= 1;
                case COIN:
                    return isRatio(a, b, 1);
                case BINOMIAL:
                    return isUpTo(a, 1000) && isRatio(b, c, 1);
                case GEOMETRIC:
                    return isRatio(a, b, 1) && isUpTo(c, 100000);
                case POISSON:
                    return isRatio(a, b, 64);
                case HYPER:
                    return isUpTo(a, 100000) && isUpTo(b, 100000) && isUpTo(c, a + b);
                case BELL:
                    return a >= 1 && isUpTo(a, 1000) && b >= 1 && isUpTo(b, 10);
                case EXPONENTIAL_COIN:
                    return isRatio(a, b, 1000);
                case SHUFFLE:
                    return isUpTo(a, MOST_ITEMS);
                case SUBSET:
                    return isUpTo(a, MOST_ITEMS) && isUpTo(b, a);
                case PATH:
                case TREE:
                    return isUpTo(a, MOST_UPS);
                case STRATUM:
                    return isUpTo(a, MOST_ITEMS) && b >= 1 && a % b == 0;
                default:
                    return false;
            }
        }

        long width() {
            return a + 2147483648L * b;
        }

        private static boolean isUpTo(int number, int most) {
            return number >= 0 && number <= most;
        }

        private static boolean isRatio(int num, int den, long most) {
            return num >= 0 && den >= 1 && num <= most * den;
        }
    }

    /** Reads a row of bits, and draws from it what all laws are made of. */
    private static final class Dice {
        private int[] words = new int[1];
        private int from;
        private int place;
        private int end;
        boolean dry;

        void open(int[] row, int at, int beyond) {
            words = row;
            from = at;
            place = at;
            end = Math.min(beyond, row.length * WORD);
            dry = false;
        }

        int bitsRead() {
            return place - from;
        }

        int nextBit() {
            if (place < 0 || place >= end) {
                dry = true;
                return 0;
            }
            int bit = (words[place / WORD] >>> (WORD - 1 - place % WORD)) & 1;
            place++;
            return bit;
        }

        long uniform(long n) {
            long m = 1;
            long v = 0;
            for (int round = 0; round < ROUNDS && !dry; round++) {
                if (m < n) {
                    m += m;
                    v += v + nextBit();
                } else if (v < n) {
                    return v;
                } else {
                    m -= n;
                    v -= n;
                }
            }
            return 0;
        }

        int coin(long num, long den) {
            if (num <= 0 || num >= den) {
                return num <= 0 ? 0 : 1;
            }
            long r = num;
            for (int round = 0; round < ROUNDS; round++) {
                r += r;
                int digit = r >= den ? 1 : 0;
                r -= digit * den;
                int bit = nextBit();
                if (dry) {
                    return 0;
                }
                if (bit != digit) {
                    return digit;
                }
                if (r == 0) {
                    return 0;
                }
            }
            return 0;
        }

        int coinsInARow(long num, long den) {
            int ones = 0;
            while (ones < ROUNDS && coin(num, den) == 1) {
                ones++;
            }
            return ones;
        }

        int unitExponentialCoin(long num, long den) {
            int k = 1;
            while (k < ROUNDS && coin(num, k * den) == 1) {
                k++;
            }
            return dry ? 0 : k % 2;
        }

        int exponentialCoin(long num, long den) {
            long left = num;
            for (int round = 0; round < ROUNDS && left >= den; round++) {
                if (unitExponentialCoin(1, 1) == 0) {
                    return 0;
                }
                left -= den;
            }
            return unitExponentialCoin(left, den);
        }
    }

    /** Weights for numbers, and what a build makes of them. */
    private static final class Table {
        private final int[] weights = new int[NUMBERS];
        private final int[] smalls = new int[NUMBERS];
        final int[] partners = new int[NUMBERS];
        /** With aliases the shares, that is, the limits in the end; as a tree what is left of each weight in a draw. */
        final long[] rests = new long[NUMBERS];
        int method = NONE;
        int top = 0;
        long sum = 0;

        int exchangeWeight(int i, int w) {
            int before = weights[i];
            weights[i] = w;
            method = NONE;
            return before;
        }

        long sumOfWeights() {
            long total = 0;
            for (int i = 0; i < NUMBERS; i++) {
                total += weights[i];
            }
            return total;
        }

        void prepare(int newMethod) {
            method = newMethod;
            sum = sumOfWeights();
            top = NUMBERS;
            while (top > 0 && weights[top - 1] == 0) {
                top--;
            }
            if (method == WITH_ALIASES) {
                pair();
            }
        }

        private void pair() {
            int smallCount = takeShares();
            int large = firstLarge(0);
            for (int done = 0; done < smallCount && done < NUMBERS && large < top; done++) {
                int small = smalls[done];
                partners[small] = large;
                rests[large] -= sum - rests[small];
                if (rests[large] < sum && smallCount < NUMBERS) {
                    smalls[smallCount] = large;
                    smallCount++;
                    large = firstLarge(large + 1);
                }
            }
            // What the small ones lacked has come from the large ones to the last unit: those left have share S.
        }

        private int takeShares() {
            int smallCount = 0;
            for (int i = 0; i < top; i++) {
                rests[i] = (long) top * weights[i];
                partners[i] = i;
                if (rests[i] < sum) {
                    smalls[smallCount] = i;
                    smallCount++;
                }
            }
            return smallCount;
        }

        /** Behind the first large one none has lost any of its share yet, so the share alone tells which are large. */
        private int firstLarge(int start) {
            int i = start;
            while (i < top && rests[i] < sum) {
                i++;
            }
            return i;
        }

        int pick(Dice dice) {
            return method == AS_TREE ? pickByTree(dice) : pickByAlias(dice);
        }

        private int pickByAlias(Dice dice) {
            int c = (int) dice.uniform(top);
            if (c < 0 || c >= top) {
                return 0;
            }
            return dice.coin(rests[c], sum) == 1 ? c : partners[c];
        }

        private int pickByTree(Dice dice) {
            if (top > 0 && weights[top - 1] == sum) {
                return top - 1;
            }
            for (int i = 0; i < top; i++) {
                rests[i] = weights[i];
            }
            int d = 0;
            for (int round = 0; round < ROUNDS && !dice.dry; round++) {
                d += d + dice.nextBit();
                for (int i = 0; i < top; i++) {
                    rests[i] += rests[i];
                    if (rests[i] >= sum) {
                        rests[i] -= sum;
                        if (d == 0) {
                            return i;
                        }
                        d--;
                    }
                }
            }
            return 0;
        }
    }

    /** The laws whose outcome is one number. */
    private static final class Laws {
        private final Dice dice;

        Laws(Dice dice) {
            this.dice = dice;
        }

        int binomial(int n, int num, int den) {
            int ones = 0;
            for (int i = 0; i < n && !dice.dry; i++) {
                ones += dice.coin(num, den);
            }
            return ones;
        }

        int geometric(int num, int den, int cap) {
            // Coins that cannot be 1 read nothing: there is no need to toss 100000 of them.
            if (num == 0) {
                return cap;
            }
            int zeros = 0;
            while (zeros < cap && !dice.dry && dice.coin(num, den) == 0) {
                zeros++;
            }
            return zeros;
        }

        int hyper(int a, int b, int k) {
            int good = a;
            int bad = b;
            int found = 0;
            for (int left = k; left > 0 && !dice.dry; left--) {
                // With one sort gone the coins left are sure and read nothing, however many they are.
                if (good == 0 || bad == 0) {
                    return good == 0 ? found : found + left;
                }
                if (dice.coin(good, good + bad) == 1) {
                    good--;
                    found++;
                } else {
                    bad--;
                }
            }
            return found;
        }

        long poisson(int num, int den) {
            if (num == 0 || den < 1) {
                return 0;
            }
            long times = (2L * num + den - 1) / den;
            long total = 0;
            for (long i = 0; i < times && !dice.dry; i++) {
                total += poissonPart(num, times * den);
            }
            return total;
        }

        private int poissonPart(long num, long den) {
            for (int round = 0; round < ROUNDS && !dice.dry; round++) {
                int n = dice.coinsInARow(num, den);
                if (areZero(n)) {
                    return n;
                }
            }
            return 0;
        }

        private boolean areZero(int n) {
            for (int m = 2; m <= n; m++) {
                if (dice.uniform(m) != 0 || dice.dry) {
                    return false;
                }
            }
            return true;
        }

        long bell(long num, long den) {
            long t = 1;
            while (t < ROUNDS && t * t * den <= num) {
                t++;
            }
            for (int round = 0; round < ROUNDS && !dice.dry; round++) {
                long u = dice.uniform(t);
                if (dice.exponentialCoin(u, t) == 0) {
                    continue;
                }
                long y = u + t * exponentialCoinsInARow();
                boolean minus = dice.nextBit() == 1;
                if (y == 0 && minus) {
                    continue;
                }
                long gap = y * den * t - num;
                if (dice.exponentialCoin(gap * gap, 2 * num * den * t * t) == 1) {
                    return minus ? -y : y;
                }
            }
            return 0;
        }

        private int exponentialCoinsInARow() {
            int ones = 0;
            while (ones < ROUNDS && dice.unitExponentialCoin(1, 1) == 1) {
                ones++;
            }
            return ones;
        }
    }

    /** The laws whose outcome is a row of items. */
    private static final class Rows {
        private static final int CHECK_MODULUS = 1000003;

        private final Dice dice;
        private final int[] steps = new int[MOST_ITEMS];
        private final int[] ups = new int[MOST_UPS];
        private final int[] pending = new int[MOST_UPS];
        final int[] items = new int[MOST_ITEMS];
        int size = 0;

        Rows(Dice dice) {
            this.dice = dice;
        }

        long checkSum() {
            long sum = 0;
            for (int i = 0; i < size; i++) {
                sum += (i + 1L) * items[i];
            }
            return sum % CHECK_MODULUS;
        }

        int shuffle(int n) {
            for (int i = 0; i < n; i++) {
                items[i] = i;
            }
            for (int i = n - 1; i >= 1 && !dice.dry; i--) {
                int j = (int) dice.uniform(i + 1);
                int moved = items[i];
                items[i] = items[j];
                items[j] = moved;
            }
            size = n;
            return size;
        }

        int stratum(int n, int arms) {
            shuffle(n);
            for (int i = 0; i < n && arms > 0; i++) {
                items[i] %= arms;
            }
            return size;
        }

        int subset(int n, int k) {
            for (int i = 0; i < n && !dice.dry; i++) {
                if (dice.coin(k - size, n - i) == 1) {
                    items[size] = i;
                    size++;
                }
            }
            return size;
        }

        int path(int n) {
            walk(n);
            size = 2 * n;
            System.arraycopy(steps, 0, items, 0, size);
            return size;
        }

        int tree(int n) {
            walk(n);
            int seen = 0;
            int depth = 0;
            for (int at = 0; at < 2 * n && !dice.dry; at++) {
                if (steps[at] == 1 && seen < n) {
                    ups[seen] = at;
                    pending[depth] = seen;
                    depth++;
                    seen++;
                } else if (depth > 0) {
                    depth--;
                    int up = pending[depth];
                    items[up] = (at - ups[up] - 1) / 2;
                }
            }
            size = n;
            return size;
        }

        private void walk(int n) {
            int h = 0;
            for (int at = 0; at < 2 * n && !dice.dry; at++) {
                int r = 2 * n - at;
                steps[at] = dice.coin((h + 2) * (r - h), 2 * (h + 1) * r);
                h += steps[at] == 1 ? 1 : -1;
            }
        }
    }

    /** Draws whatever is ordered. */
    private static final class Sampler {
        private final Table[] tables;
        private final Laws laws;
        final Dice dice;
        final Rows rows;

        Sampler(Table[] tables, Dice dice, Laws laws, Rows rows) {
            this.tables = tables;
            this.dice = dice;
            this.laws = laws;
            this.rows = rows;
        }

        boolean isReadyFor(Order order) {
            return order.kind != TABLE || tables[order.a].method != NONE;
        }

        long answer(Order order) {
            rows.size = 0;
            switch (order.kind) {
                case TABLE:
                    return tables[order.a].pick(dice);
                case UNIFORM:
                    return dice.uniform(order.width());
                case COIN:
                    return dice.coin(order.a, order.b);
                case BINOMIAL:
                    return laws.binomial(order.a, order.b, order.c);
                case GEOMETRIC:
                    return laws.geometric(order.a, order.b, order.c);
                case POISSON:
                    return laws.poisson(order.a, order.b);
                case HYPER:
                    return laws.hyper(order.a, order.b, order.c);
                case BELL:
                    return laws.bell(order.a, order.b);
                case EXPONENTIAL_COIN:
                    return dice.exponentialCoin(order.a, order.b);
                case SHUFFLE:
                    return rows.shuffle(order.a);
                case SUBSET:
                    return rows.subset(order.a, order.b);
                case PATH:
                    return rows.path(order.a);
                case TREE:
                    return rows.tree(order.a);
                default:
                    return rows.stratum(order.a, order.b);
            }
        }
    }

    /** The latest draws, in a ring. */
    private static final class Log {
        static final int KIND = 0;
        static final int A = 1;
        static final int B = 2;
        static final int C = 3;
        static final int PLACE = 4;
        static final int BITS = 5;
        static final int ANSWER = 6;
        static final int ITEMS = 7;
        private static final int WIDTH = 8;
        private static final int KEPT = 100;

        private final long[] cells = new long[KEPT * WIDTH];
        private int next = 0;
        int size = 0;
        int draws = 0;

        void add(Order order, int place, int bits, long answer, long itemSum) {
            int at = next * WIDTH;
            cells[at + KIND] = order.kind;
            cells[at + A] = order.a;
            cells[at + B] = order.b;
            cells[at + C] = order.c;
            cells[at + PLACE] = place;
            cells[at + BITS] = bits;
            cells[at + ANSWER] = answer;
            cells[at + ITEMS] = itemSum;
            next = (next + 1) % KEPT;
            size = Math.min(size + 1, KEPT);
            draws++;
        }

        long cell(int i, int what) {
            int slot = (next + KEPT - size + i) % KEPT;
            return cells[slot * WIDTH + what];
        }
    }
}
