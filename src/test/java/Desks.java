/** Makes desks for tests, and tells what a draw from given bits answers and reads. */
final class Desks {
    static final int FED = 128;
    static final int TAPE = 16384;

    private Desks() {
    }

    private static void feed(SampleDesk x, String bits) {
        for (int fed = 0; fed < bits.length(); fed += FED) {
            int[] w = new int[4];
            for (int i = 0; i < FED && fed + i < bits.length(); i++) {
                w[i / 32] |= (bits.charAt(fed + i) - '0') << (31 - i % 32);
            }
            x.feed(w[0], w[1], w[2], w[3]);
        }
    }

    /** A desk whose tape begins with the bits told (spaces don't count) and goes on with zeros. */
    static SampleDesk withBits(String told) {
        SampleDesk x = new SampleDesk();
        String bits = told.replace(" ", "");
        feed(x, bits.isEmpty() ? "0" : bits);
        return x;
    }

    /** A desk whose tape ends with the bits told, with the place where they begin. */
    static SampleDesk endingWith(String told) {
        SampleDesk x = new SampleDesk();
        endWith(x, told);
        return x;
    }

    static void endWith(SampleDesk x, String told) {
        String bits = told.replace(" ", "");
        int before = FED - bits.length() % FED;
        feed(x, "0".repeat(before) + bits);
        x.rewind(before);
    }

    /** A desk whose tape is full: 16384 bits, 32 after 32 the same. */
    static SampleDesk full(int word) {
        SampleDesk x = new SampleDesk();
        feedToTheBrim(x, word);
        return x;
    }

    static void feedToTheBrim(SampleDesk x, int word) {
        for (int fed = 0; fed < TAPE; fed += FED) {
            x.feed(word, word, word, word);
        }
    }

    /** A desk without a tape, whose table 0 has the weights and is built. */
    static SampleDesk table(int method, int... weights) {
        SampleDesk x = new SampleDesk();
        weigh(x, 0, weights);
        x.build(0, method);
        return x;
    }

    static void weigh(SampleDesk x, int table, int... weights) {
        for (int i = 0; i < weights.length; i++) {
            x.weight(table, i, weights[i]);
        }
    }

    static String told(int kind, int a, int b, int c) {
        return "draw(" + kind + ", " + a + ", " + b + ", " + c + ")";
    }

    /** A draw from the bits told answers what is due, and reads just these bits. */
    static void draws(String bits, int kind, int a, int b, int c, long due) {
        draws(withBits(bits), bits, kind, a, b, c, due);
    }

    private static void draws(SampleDesk x, String bits, int kind, int a, int b, int c, long due) {
        String call = told(kind, a, b, c) + " from '" + bits + "'";
        Check.same(call, Check.outcome(() -> x.draw(kind, a, b, c)), String.valueOf(due));
        Check.due(call + ": bits", x.count(2), bits.replace(" ", "").length());
    }

    static void drawsFromTable(String bits, int method, long due, int... weights) {
        SampleDesk x = table(method, weights);
        feed(x, bits.isEmpty() ? "0" : bits.replace(" ", ""));
        draws(x, bits, 0, 0, -5, -5, due);
    }

    static void drawsItems(String bits, int kind, int a, int b, int... due) {
        SampleDesk x = withBits(bits);
        draws(x, bits, kind, a, b, 0, due.length);
        for (int i = 0; i < due.length; i++) {
            int at = i;
            Check.same("item " + i + " of kind " + kind + " from '" + bits + "'", Check.outcome(() -> x.item(at)),
                    String.valueOf(due[i]));
        }
        Check.refuses("the item beyond", Check.INDEX, () -> x.item(due.length));
    }
}
