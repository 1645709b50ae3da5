import java.util.ArrayList;
import java.util.List;

/** What the tests of the edges have in common. */
final class Edge {
    static final int NONE = -1;
    static final int MIN = Integer.MIN_VALUE;
    static final int MAX = Integer.MAX_VALUE;
    static final long MOST = 1_000_000_000_000_000L;

    static final int PLAIN = 0;
    static final int CAREFUL = 1;
    static final int MISRA = 2;
    static final int SAVING = 3;
    static final int ALL_FOUR = 4;

    static final int ESTIMATE = 0;
    static final int LOW = 1;
    static final int HIGH = 2;

    static final int STATE_OF_MISRA = 0;
    static final int STATE_TAKEN = 1;
    static final int STATE_OF_SAVING = 2;
    static final int STATE_LEAST = 3;
    static final int STATE_KEYS = 4;

    static final int[] NO_STREAMS = {MIN, -4, -1, 4, 5, 256, MAX};

    private static final List<String> faults = new ArrayList<>();

    private Edge() {
    }

    /** The faults since the last time, which are forgotten then. */
    static List<String> takeFaults() {
        List<String> taken = new ArrayList<>(faults);
        faults.clear();
        return taken;
    }

    static void due(String what, long got, long want) {
        if (got != want) {
            faults.add(what + " answered " + got + ", due is " + want);
        }
    }

    static void due(String what, boolean got, boolean want) {
        if (got != want) {
            faults.add(what + " answered " + got + ", due is " + want);
        }
    }

    static void due(String what, String got, String want) {
        if (!got.equals(want)) {
            faults.add(what + ": there is\n    " + got + "\n  due is\n    " + want);
        }
    }

    /** A small object, of which a picture takes 144 calls. */
    static Watched tiny() {
        return new Watched(5, 2, 2, 2);
    }

    /** A small object with something in each stream but 3, and a report. */
    static Watched busy() {
        Watched x = tiny();
        x.add(0, 1, 3);
        x.add(0, 4, 2);
        x.add(0, 2, 1);
        x.add(1, 3, 7);
        x.add(2, 0, 1);
        x.add(2, 4, 1);
        x.report(0, PLAIN, 100, false);
        return x;
    }

    /** All that can be asked of a stream. */
    static String picture(Watched x, int stream) {
        StringBuilder text = new StringBuilder("n " + x.total(stream) + " state");
        for (int what = 0; what < 5; what++) {
            text.append(" ").append(x.state(stream, what));
        }
        for (int sketch = MISRA; sketch <= SAVING; sketch++) {
            text.append(sketch == MISRA ? " misra" : " saving");
            for (int i = 0; i < x.counters; i++) {
                text.append(" ").append(x.counter(stream, sketch, i, 0));
                text.append(":").append(x.counter(stream, sketch, i, 1));
                text.append(":").append(x.counter(stream, sketch, i, 2));
            }
        }
        for (int sketch = PLAIN; sketch <= CAREFUL; sketch++) {
            text.append(sketch == PLAIN ? " plain" : " careful");
            for (int row = 0; row < x.rows; row++) {
                for (int column = 0; column < x.width; column++) {
                    text.append(" ").append(x.cell(stream, sketch, row, column));
                }
            }
        }
        text.append(" counts");
        for (int key = 0; key < x.prime; key++) {
            text.append(" ").append(x.count(stream, key));
        }
        return text.toString();
    }

    /** All that can be asked of an object: its streams, its hashes, its latest report. */
    static String picture(Watched x) {
        StringBuilder text = new StringBuilder();
        for (int stream = 0; stream < 4; stream++) {
            text.append(picture(x, stream)).append(" | ");
        }
        text.append("hashes");
        for (int row = 0; row < x.rows; row++) {
            for (int key = 0; key < x.prime; key++) {
                text.append(" ").append(x.hash(row, key));
            }
        }
        text.append(" | reported");
        for (int i = 0; i < x.prime; i++) {
            text.append(" ").append(x.reported(i, 0)).append(":").append(x.reported(i, 1));
        }
        return text.toString();
    }

    /** A sketch's counters are these: key, number, ERROR of each, and none behind them. */
    static void dueCounters(Watched x, int stream, int sketch, long... want) {
        StringBuilder got = new StringBuilder();
        StringBuilder told = new StringBuilder();
        for (int i = 0; i <= want.length / 3; i++) {
            for (int what = 0; what < 3; what++) {
                got.append(" ").append(x.counter(stream, sketch, i, what));
                told.append(" ").append(3 * i < want.length ? want[3 * i + what] : NONE);
            }
        }
        due("the counters of sketch " + sketch + " of stream " + stream, got.toString(), told.toString());
    }

    /** Stream 0 gets n = 10 to the power (3 or more), all of one key; stream 3 is empty then. */
    static void fill(Watched x, int key, int power) {
        x.add(0, key, 1000);
        for (int i = 3; i < power; i++) {
            tenfold(x);
        }
        x.clear(3);
    }

    /** Stream 0 becomes ten times what it is, by putting together; stream 3 what stream 0 was. */
    static void tenfold(Watched x) {
        x.copy(3, 0);
        x.join(0, 0);
        x.join(0, 0);
        x.join(0, 3);
        x.join(0, 0);
    }

    /** Keys from .. to - 1 come once each. */
    static void addEach(Watched x, int stream, int from, int to) {
        for (int key = from; key < to; key++) {
            x.add(stream, key, 1);
        }
    }
}
