import java.util.function.Consumer;

/**
 * Two desks of the same story, of which one has borne a call more: whatever can be asked of them, they answer alike.
 * Some questions change the desk (weights, bits) and no desk is asked more than 512 times, so each look has a new pair.
 */
final class Twins {
    private static final int LOOKS = 14;
    private static final int FIRST_JOURNAL_LOOK = 1;
    /** UNIFORM 2^39 reads just 39 bits, the most that one draw can tell. */
    private static final int CHUNK = 39;

    private Twins() {
    }

    interface Call {
        Object on(SampleDesk x);
    }

    static void refused(String what, Class<? extends Exception> due, Consumer<SampleDesk> story, Call call) {
        alike(what, "throws." + due.getSimpleName(), story, call);
    }

    static void answered(String what, Object due, Consumer<SampleDesk> story, Call call) {
        alike(what, String.valueOf(due), story, call);
    }

    private static void alike(String what, String due, Consumer<SampleDesk> story, Call call) {
        for (int look = 0; look < LOOKS; look++) {
            SampleDesk one = new SampleDesk();
            SampleDesk other = new SampleDesk();
            story.accept(one);
            story.accept(other);
            String got = Check.outcome(() -> call.on(one));
            if (look == 0) {
                Check.same(what, got, due);
            }
            Check.same(what + " changes nothing, look " + look, look(one, look), look(other, look));
        }
    }

    private static String look(SampleDesk x, int which) {
        StringBuilder out = new StringBuilder();
        switch (which) {
            case 0 -> countsAndItems(x, out);
            case 8 -> replays(x, out);
            case 9 -> builtTables(x, out);
            case 10 -> weights(x, 0, out);
            case 11 -> weights(x, 4, out);
            case 12 -> bits(x, 0, x.count(0) / 2, out);
            case 13 -> bits(x, x.count(0) / 2, x.count(0), out);
            default -> journal(x, which - FIRST_JOURNAL_LOOK, out);
        }
        return out.toString();
    }

    private static void tell(StringBuilder out, java.util.concurrent.Callable<?> question) {
        out.append(Check.outcome(question)).append(' ');
    }

    private static void countsAndItems(SampleDesk x, StringBuilder out) {
        for (int what = 0; what <= 4; what++) {
            out.append(x.count(what)).append(' ');
        }
        for (int i = 0; i < 256; i++) {
            int at = i;
            tell(out, () -> x.item(at));
        }
    }

    private static void journal(SampleDesk x, int what, StringBuilder out) {
        for (int i = 0; i < 100; i++) {
            int at = i;
            tell(out, () -> x.journal(at, what));
        }
    }

    private static void replays(SampleDesk x, StringBuilder out) {
        for (int i = 0; i < 100; i++) {
            int at = i;
            tell(out, () -> x.replay(at));
        }
    }

    private static void builtTables(SampleDesk x, StringBuilder out) {
        for (int t = 0; t < 8; t++) {
            int table = t;
            tell(out, () -> x.undecided(0, table, 0, 0, 8));
            for (int i = 0; i < 8; i++) {
                int number = i;
                tell(out, () -> x.decided(0, table, 0, 0, 8, number));
                tell(out, () -> x.alias(table, number, 0));
                tell(out, () -> x.alias(table, number, 1));
            }
        }
    }

    private static void weights(SampleDesk x, int from, StringBuilder out) {
        for (int t = from; t < from + 4; t++) {
            for (int i = 0; i < 64; i++) {
                out.append(x.weight(t, i, 0)).append(' ');
            }
        }
    }

    private static void bits(SampleDesk x, int from, int beyond, StringBuilder out) {
        x.rewind(from);
        int at = from;
        while (at < beyond) {
            boolean many = at + CHUNK <= beyond;
            out.append(many ? x.draw(1, 0, 256, 0) : x.draw(1, 2, 0, 0)).append(' ');
            at += many ? CHUNK : 1;
        }
    }
}
