import java.util.ArrayList;
import java.util.List;
import java.util.Random;
import java.util.function.Consumer;

/** Runs of at most 512 calls by fixed seeds, each answer held against NaiveSketches. */
public final class NaiveTest {
    // What an object answers later is free.
    private static final int MOST_CALLS = 512;
    private static final int AGAIN = 3;
    private static final int[] PRIMES = {-5, 0, 2, 3, 4, 5, 7, 11, 24, 31, 60, 97, 131, 132, 400, 1000, 5000};
    private static final int[] WIDTHS = {0, 1, 2, 3, 5, 16, 100, 256, 300};
    private static final int[] ROWS = {-1, 1, 2, 3, 5, 8, 9};
    private static final int[] COUNTERS = {0, 1, 2, 3, 4, 8, 20, 64, 70};

    // What a run is rich in, so that rare edges come, too.
    private static final int TASTES = 4;
    private static final int MANY_TIMES = 1;
    private static final int MANY_JOINS = 2;
    private static final int MANY_KEYS = 3;

    private final Random random;
    private final int[] sizes;
    private FrequencySketches real;
    private final NaiveSketches naive;
    private final List<String> calls = new ArrayList<>();
    private final List<Consumer<FrequencySketches>> changes = new ArrayList<>();
    private final int span;
    private final int taste;
    private boolean wrong = false;

    private NaiveTest(long seed) {
        random = new Random(seed);
        int prime = pick(PRIMES);
        int width = pick(WIDTHS);
        int rows = pick(ROWS);
        int counters = pick(COUNTERS);
        calls.add("new FrequencySketches(" + prime + ", " + width + ", " + rows + ", " + counters + ")");
        sizes = new int[] {prime, width, rows, counters};
        real = made();
        naive = new NaiveSketches(prime, width, rows, counters);
        span = random.nextBoolean() ? naive.p : Math.min(naive.p, 1 + random.nextInt(100));
        taste = random.nextInt(TASTES);
    }

    private FrequencySketches made() {
        return new FrequencySketches(sizes[0], sizes[1], sizes[2], sizes[3]);
    }

    private int pick(int[] from) {
        return from[random.nextInt(from.length)];
    }

    /** 0 .. bound - 1 as a rule, now and then just outside or far outside. */
    private int about(int bound) {
        int dice = random.nextInt(60);
        if (dice == 0) {
            return -1;
        }
        if (dice == 1) {
            return bound;
        }
        if (dice == 2) {
            return random.nextInt();
        }
        return random.nextInt(Math.max(1, bound));
    }

    private int key() {
        if (random.nextInt(30) == 0) {
            return about(naive.p);
        }
        return taste == MANY_KEYS ? random.nextInt(naive.p) : random.nextInt(span) * random.nextInt(span + 1) / span;
    }

    private int times() {
        switch (random.nextInt(taste == MANY_TIMES ? 3 : 12)) {
            case 0: return 1 + random.nextInt(1000);
            case 1: return about(1002);
            default: return 1 + random.nextInt(4);
        }
    }

    private void same(String call, long got, long want) {
        calls.add(call + " = " + want);
        if (got != want && !wrong) {
            wrong = true;
            calls.forEach(System.out::println);
            System.out.println("answered " + got + ", due is " + want);
        }
    }

    private static long bit(boolean b) {
        return b ? 1 : 0;
    }

    private void call(int kind) {
        int s = taste == MANY_KEYS && random.nextInt(9) != 0 ? 0 : about(4);
        int t = about(4);
        int k = key();
        switch (kind) {
            case 0: { int w = about(5); same("size(" + w + ")", real.size(w), naive.size(w)); break; }
            case 1: {
                int r = about(naive.rows);
                int a = about(naive.p);
                int b = about(naive.p);
                changes.add(x -> x.pair(r, a, b));
                same("pair(" + r + ", " + a + ", " + b + ")", bit(real.pair(r, a, b)), bit(naive.pair(r, a, b)));
                break;
            }
            case 2: { int r = about(naive.rows); same("hash(" + r + ", " + k + ")", real.hash(r, k), naive.hash(r, k)); break; }
            case 3: changes.add(x -> x.clear(s)); same("clear(" + s + ")", bit(real.clear(s)), bit(naive.clear(s))); break;
            case 4: changes.add(x -> x.copy(s, t)); same("copy(" + s + ", " + t + ")", bit(real.copy(s, t)), bit(naive.copy(s, t))); break;
            case 5: changes.add(x -> x.join(s, t)); same("join(" + s + ", " + t + ")", real.join(s, t), naive.join(s, t)); break;
            case 6: same("total(" + s + ")", real.total(s), naive.total(s)); break;
            case 7: {
                int q = about(5);
                int side = about(3);
                same("estimate(" + s + ", " + q + ", " + k + ", " + side + ")",
                    real.estimate(s, q, k, side), naive.estimate(s, q, k, side));
                break;
            }
            case 8: same("count(" + s + ", " + k + ")", real.count(s, k), naive.count(s, k)); break;
            case 9: {
                int q = about(2);
                int r = about(naive.rows);
                int c = about(naive.width);
                same("cell(" + s + ", " + q + ", " + r + ", " + c + ")", real.cell(s, q, r, c), naive.cell(s, q, r, c));
                break;
            }
            case 10: {
                int q = 2 + about(2);
                int i = about(naive.counters);
                int w = about(3);
                same("counter(" + s + ", " + q + ", " + i + ", " + w + ")",
                    real.counter(s, q, i, w), naive.counter(s, q, i, w));
                break;
            }
            case 11: { int w = about(5); same("state(" + s + ", " + w + ")", real.state(s, w), naive.state(s, w)); break; }
            case 12: callReport(s); break;
            case 13: { int i = about(20); int w = about(2); same("reported(" + i + ", " + w + ")", real.reported(i, w), naive.reported(i, w)); break; }
            case 14: same("overcounts(" + s + ", " + k + ")", real.overcounts(s, k), naive.overcounts(s, k)); break;
            case 15: same("audit(" + s + ")", real.audit(s), naive.audit(s)); break;
            default: { int m = times(); changes.add(x -> x.add(s, k, m)); same("add(" + s + ", " + k + ", " + m + ")", real.add(s, k, m), naive.add(s, k, m)); break; }
        }
    }

    private void callReport(int s) {
        int q = about(5);
        int parts = random.nextInt(4) == 0 ? about(100001) : about(30);
        boolean sure = random.nextBoolean();
        changes.add(x -> x.report(s, q, parts, sure));
        same("report(" + s + ", " + q + ", " + parts + ", " + sure + ")",
            real.report(s, q, parts, sure), naive.report(s, q, parts, sure));
    }

    /** Which call comes next: some are dear for NaiveSketches, and clearing often leaves nothing to see. */
    private int kind() {
        int dice = random.nextInt(100);
        if (taste == MANY_JOINS && dice < 60) {
            return 5;
        }
        if (dice < (taste == MANY_KEYS ? 94 : 50)) {
            return 16;
        }
        int kind = random.nextInt(16);
        boolean rare = kind == 3 || kind == 4 || kind == 12 || kind == 14;
        return rare && random.nextInt(4) != 0 ? 16 : kind;
    }

    /** Calls that ask, on an object that stands as the run has left it, as many as an object may have. */
    private void askMuch(int callsBefore) {
        for (int i = callsBefore; i < MOST_CALLS && !wrong; i++) {
            int s = random.nextInt(4);
            int w = random.nextInt(3);
            switch (random.nextInt(7)) {
                case 0: { int what = random.nextInt(5); same("state(" + s + ", " + what + ")", real.state(s, what), naive.state(s, what)); break; }
                case 1: {
                    int q = 2 + random.nextInt(2);
                    int at = random.nextInt(naive.counters + 1);
                    same("counter(" + s + ", " + q + ", " + at + ", " + w + ")",
                        real.counter(s, q, at, w), naive.counter(s, q, at, w));
                    break;
                }
                case 2: {
                    int q = random.nextInt(2);
                    int r = random.nextInt(naive.rows);
                    int c = random.nextInt(naive.width);
                    same("cell(" + s + ", " + q + ", " + r + ", " + c + ")", real.cell(s, q, r, c), naive.cell(s, q, r, c));
                    break;
                }
                case 3: { int k = key(); same("count(" + s + ", " + k + ")", real.count(s, k), naive.count(s, k)); break; }
                case 4: { int at = random.nextInt(301); same("reported(" + at + ", " + w + ")", real.reported(at, w), naive.reported(at, w)); break; }
                case 5: same("total(" + s + ")", real.total(s), naive.total(s)); break;
                default: {
                    int q = random.nextInt(5);
                    int k = key();
                    same("estimate(" + s + ", " + q + ", " + k + ", " + w + ")",
                        real.estimate(s, q, k, w), naive.estimate(s, q, k, w));
                    break;
                }
            }
        }
    }

    /** The run, then what it has left, also in new objects that only the changing calls are done to. */
    private void run() {
        int length = taste == MANY_KEYS ? MOST_CALLS - random.nextInt(100) : random.nextInt(MOST_CALLS + 1);
        for (int i = 0; i < length && !wrong; i++) {
            call(kind());
        }
        askMuch(length);
        for (int i = 0; i < AGAIN && !wrong; i++) {
            real = made();
            changes.forEach(change -> change.accept(real));
            askMuch(changes.size());
        }
    }

    public static void main(String[] args) {
        int runs = args.length > 0 ? Integer.parseInt(args[0]) : 500;
        int wrong = 0;
        int gone = 0;
        int full = 0;
        for (int seed = 1; seed <= runs && wrong < 3; seed++) {
            NaiveTest run = new NaiveTest(seed);
            run.run();
            if (run.wrong) {
                wrong++;
                System.out.println("seed " + seed);
            }
            for (int s = 0; s < 4; s++) {
                gone += run.naive.streams[s].counts == null ? 1 : 0;
                full += run.naive.streams[s].n > NaiveSketches.MOST / 2 ? 1 : 0;
            }
        }
        System.out.println(runs + " runs, " + gone + " streams ended with COUNTS that were GONE, " + full + " nearly full");
        if (wrong != 0 || gone == 0 || full == 0) {
            System.exit(1);
        }
    }
}
