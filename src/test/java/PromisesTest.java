/** Each promise by hand: ordinary inputs, the edges that the document names, wrong inputs. */
public final class PromisesTest {
    private static final long MOST = 1_000_000_000_000_000L;
    private static final int FAR = Integer.MAX_VALUE;
    private static final int LOW = Integer.MIN_VALUE;

    private static int promise = 0;
    private static int wrong = 0;

    private static void due(String what, long got, long want) {
        if (got != want) {
            wrong++;
            System.out.println("promise " + promise + ": " + what + " answered " + got + ", due is " + want);
        }
    }

    private static void due(String what, boolean got, boolean want) {
        due(what, got ? 1 : 0, want ? 1 : 0);
    }

    private static FrequencySketches small() {
        return new FrequencySketches(31, 5, 3, 4);
    }

    /** Stream 0 gets n = 10 to the power, all of key 1. */
    private static void fill(FrequencySketches x, int power) {
        x.add(0, 1, 1000);
        for (int i = 3; i < power; i++) {
            tenfold(x);
        }
    }

    /** Stream 0 is put together with itself until it is ten times what it was. */
    private static void tenfold(FrequencySketches x) {
        x.copy(3, 0);
        x.join(0, 0);
        x.join(0, 0);
        x.join(0, 3);
        x.join(0, 0);
        x.clear(3);
    }

    private static void counters(FrequencySketches x, int stream, int sketch, long... rows) {
        for (int i = 0; i < rows.length; i++) {
            due("counter(" + stream + ", " + sketch + ", " + i / 3 + ", " + i % 3 + ")",
                x.counter(stream, sketch, i / 3, i % 3), rows[i]);
        }
        due("a counter behind the last", x.counter(stream, sketch, rows.length / 3, 0), -1);
    }

    private static void newObject() {
        int[][] primes = {{LOW, 2}, {-1, 2}, {0, 2}, {1, 2}, {2, 2}, {3, 3}, {4, 5}, {8, 11}, {9, 11}, {25, 29},
            {49, 53}, {114, 127}, {121, 127}, {132, 137}, {1000, 1009}, {65520, 65521}, {65521, 65521},
            {65522, 65521}, {65500, 65519}, {65519, 65519}, {63001, 63029}, {FAR, 65521}};
        for (int[] p : primes) {
            due("P of " + p[0], new FrequencySketches(p[0], 1, 1, 1).size(0), p[1]);
        }
        int[][] others = {{LOW, 1, 1, 1}, {0, 1, 1, 1}, {1, 1, 1, 1}, {2, 2, 2, 2}, {8, 8, 8, 8}, {9, 9, 8, 9},
            {64, 64, 8, 64}, {65, 65, 8, 64}, {256, 256, 8, 64}, {257, 256, 8, 64}, {FAR, 256, 8, 64}};
        for (int[] o : others) {
            FrequencySketches x = new FrequencySketches(7, o[0], o[0], o[0]);
            due("WIDTH of " + o[0], x.size(1), o[1]);
            due("ROWS of " + o[0], x.size(2), o[2]);
            due("COUNTERS of " + o[0], x.size(3), o[3]);
        }
        FrequencySketches x = small();
        for (int s = 0; s < 4; s++) {
            due("total", x.total(s), 0);
            for (int w = 0; w < 5; w++) {
                due("state", x.state(s, w), 0);
            }
            due("estimate", x.estimate(s, 4, 30, 2), 0);
            due("audit", x.audit(s), 0);
        }
        due("reported", x.reported(0, 0), -1);
    }

    private static void size() {
        FrequencySketches x = new FrequencySketches(30, 6, 2, 9);
        int[] want = {31, 6, 2, 9};
        for (int i = 0; i < 4; i++) {
            due("size(" + i + ")", x.size(i), want[i]);
        }
        for (int i : new int[] {-1, 4, FAR, LOW}) {
            due("size(" + i + ")", x.size(i), -1);
        }
    }

    private static void pair() {
        FrequencySketches x = small();
        due("pair", x.pair(2, 30, 30), true);
        due("hash", x.hash(2, 1), (30 + 30) % 31 % 5);
        due("pair", x.pair(0, 1, 0), true);
        due("hash", x.hash(0, 29), 29 % 5);
        int[][] bad = {{-1, 1, 0}, {3, 1, 0}, {FAR, 1, 0}, {0, 0, 0}, {0, -1, 0}, {0, 31, 0}, {0, LOW, 0},
            {0, 2, -1}, {0, 2, 31}, {0, 2, FAR}};
        for (int[] b : bad) {
            due("a wrong pair", x.pair(b[0], b[1], b[2]), false);
        }
        due("hash as before", x.hash(0, 29), 29 % 5);
        x.add(3, 5, 1);
        due("pair with a stream that isn't empty", x.pair(0, 2, 2), false);
        due("hash as before", x.hash(0, 29), 29 % 5);
        x.copy(1, 3);
        x.clear(3);
        due("pair with another that isn't empty", x.pair(0, 2, 2), false);
        x.copy(1, 3);
        due("pair when all are empty again", x.pair(0, 2, 2), true);
        due("hash", x.hash(0, 29), (58 + 2) % 31 % 5);
        due("cells by the new pair", x.add(0, 29, 3), 3);
        due("cell", x.cell(0, 0, 0, (58 + 2) % 31 % 5), 3);
    }

    private static void hash() {
        FrequencySketches x = new FrequencySketches(65521, 256, 8, 1);
        for (int row = 0; row < 8; row++) {
            long a = 1 + (7919 * row + 13) % 65520;
            long b = (104729 * row + 5) % 65521;
            for (long key : new long[] {0, 1, 2, 255, 256, 40000, 65519, 65520}) {
                due("hash(" + row + ", " + key + ")", x.hash(row, (int) key), (a * key + b) % 65521 % 256);
            }
        }
        x.pair(0, 65520, 65520);
        due("the greatest product", x.hash(0, 65520), 0);
        due("no row", x.hash(8, 0), -1);
        due("no row", x.hash(-1, 0), -1);
        due("no key", x.hash(0, 65521), -1);
        due("no key", x.hash(0, -1), -1);
        FrequencySketches two = new FrequencySketches(2, 2, 8, 1);
        for (int row = 0; row < 8; row++) {
            due("hash of P 2", two.hash(row, 1), (1 + (104729 * row + 5) % 2) % 2);
        }
    }

    private static void add() {
        FrequencySketches x = small();
        due("add", x.add(0, 30, 1), 1);
        due("add", x.add(0, 0, 1000), 1001);
        due("add", x.add(3, 0, 2), 2);
        int[][] bad = {{-1, 0, 1}, {4, 0, 1}, {LOW, 0, 1}, {0, -1, 1}, {0, 31, 1}, {0, FAR, 1}, {0, 0, 0},
            {0, 0, -1}, {0, 0, 1001}, {0, 0, FAR}, {0, 0, LOW}};
        for (int[] b : bad) {
            due("a wrong add", x.add(b[0], b[1], b[2]), -1);
        }
        due("total", x.total(0), 1001);
        due("count", x.count(0, 0), 1000);
        x = small();
        fill(x, 15);
        due("total", x.total(0), MOST);
        due("n too great", x.add(0, 1, 1), -1);
        due("count", x.count(0, 1), MOST);
        due("estimate", x.estimate(0, 4, 1, 0), MOST);
        x.clear(0);
        x.add(0, 1, 999);
        for (int i = 0; i < 12; i++) {
            tenfold(x);
            x.add(0, 2, i < 9 ? 9 : 0);
        }
        due("total", x.total(0), MOST - 1000);
        due("the most by adding", x.add(0, 3, 1000), MOST);
        due("n too great", x.add(0, 3, 1), -1);
        due("count", x.count(0, 3), 1000);
    }

    /** Two keys that share one cell of two: the careful one gives less to the shared cell. */
    private static void addToCells() {
        FrequencySketches x = new FrequencySketches(7, 3, 2, 4);
        x.pair(0, 1, 0);
        x.pair(1, 2, 0);
        // Columns by row: key 1 is at 1, 2; key 4 at 1, 1; key 2 at 2, 1.
        x.add(0, 1, 5);
        x.add(0, 4, 2);
        x.add(0, 2, 1);
        long[][] plain = {{0, 7, 1}, {0, 3, 5}};
        long[][] careful = {{0, 5, 1}, {0, 2, 5}};
        for (int r = 0; r < 2; r++) {
            for (int c = 0; c < 3; c++) {
                due("PLAIN's cell " + r + ", " + c, x.cell(0, 0, r, c), plain[r][c]);
                due("CAREFUL's cell " + r + ", " + c, x.cell(0, 1, r, c), careful[r][c]);
            }
        }
    }

    private static void addToMisra() {
        FrequencySketches x = new FrequencySketches(31, 5, 3, 3);
        x.add(0, 5, 2);
        x.add(0, 1, 4);
        x.add(0, 9, 2);
        counters(x, 0, 2, 5, 2, 0, 1, 4, 0, 9, 2, 0);
        x.add(0, 7, 1);
        counters(x, 0, 2, 5, 1, 0, 1, 3, 0, 9, 1, 0);
        due("TAKEN", x.state(0, 1), 1);
        x.add(0, 7, 1);
        counters(x, 0, 2, 1, 2, 0);
        due("TAKEN", x.state(0, 1), 2);
        x.add(0, 9, 3);
        x.add(0, 5, 3);
        x.add(0, 6, 6);
        counters(x, 0, 2, 9, 1, 0, 5, 1, 0, 6, 4, 0);
        due("TAKEN", x.state(0, 1), 4);
    }

    private static void addToSaving() {
        FrequencySketches x = new FrequencySketches(31, 5, 3, 3);
        x.add(0, 5, 2);
        x.add(0, 1, 1);
        x.add(0, 9, 1);
        counters(x, 0, 3, 1, 1, 0, 9, 1, 0, 5, 2, 0);
        x.add(0, 1, 1);
        counters(x, 0, 3, 9, 1, 0, 5, 2, 0, 1, 2, 0);
        x.add(0, 7, 1);
        counters(x, 0, 3, 5, 2, 0, 1, 2, 0, 7, 2, 1);
        x.add(0, 30, 3);
        counters(x, 0, 3, 1, 2, 0, 7, 2, 1, 30, 5, 2);
        x.add(0, 7, 3);
        counters(x, 0, 3, 1, 2, 0, 30, 5, 2, 7, 5, 1);
        due("LEAST", x.state(0, 3), 2);
    }

    private static void clear() {
        FrequencySketches x = small();
        x.pair(1, 3, 4);
        for (int k = 0; k < 9; k++) {
            x.add(1, k, k + 1);
        }
        x.add(2, 3, 4);
        x.report(1, 0, 100, false);
        long first = x.reported(0, 0);
        due("clear", x.clear(1), true);
        due("total", x.total(1), 0);
        for (int w = 0; w < 5; w++) {
            due("state", x.state(1, w), 0);
        }
        for (int r = 0; r < 3; r++) {
            for (int c = 0; c < 5; c++) {
                due("cell", x.cell(1, 0, r, c) + x.cell(1, 1, r, c), 0);
            }
        }
        due("count", x.count(1, 8), 0);
        due("estimate", x.estimate(1, 3, 8, 2), 0);
        due("the pair stays", x.hash(1, 1), 2);
        due("another stream stays", x.total(2), 4);
        due("the report stays", x.reported(0, 0), first);
        for (int s : new int[] {-1, 4, FAR, LOW}) {
            due("clear(" + s + ")", x.clear(s), false);
        }
        due("add again", x.add(1, 8, 1), 1);
        counters(x, 1, 2, 8, 1, 0);
        counters(x, 1, 3, 8, 1, 0);
    }

    private static void copy() {
        FrequencySketches x = small();
        for (int k = 0; k < 9; k++) {
            x.add(1, k, k + 1);
            x.add(0, 20, 7);
        }
        due("copy", x.copy(0, 1), true);
        due("copy of itself", x.copy(1, 1), true);
        for (int s = 0; s < 2; s++) {
            due("total", x.total(s), 45);
            due("count", x.count(s, 20), 0);
            due("count", x.count(s, 8), 9);
        }
        for (int i = 0; i < 12; i++) {
            due("counter", x.counter(0, 2, i / 3, i % 3), x.counter(1, 2, i / 3, i % 3));
            due("counter", x.counter(0, 3, i / 3, i % 3), x.counter(1, 3, i / 3, i % 3));
        }
        for (int r = 0; r < 3; r++) {
            for (int c = 0; c < 5; c++) {
                due("cell", x.cell(0, 0, r, c), x.cell(1, 0, r, c));
                due("cell", x.cell(0, 1, r, c), x.cell(1, 1, r, c));
            }
        }
        due("TAKEN", x.state(0, 1), x.state(1, 1));
        x.add(0, 8, 100);
        due("the other one stays", x.total(1), 45);
        due("the other one stays", x.count(1, 8), 9);
        for (int s : new int[] {-1, 4, FAR, LOW}) {
            due("copy to none", x.copy(s, 0), false);
            due("copy of none", x.copy(0, s), false);
        }
        due("total", x.total(0), 145);
    }

    private static void join() {
        FrequencySketches x = new FrequencySketches(31, 5, 2, 2);
        x.add(0, 3, 5);
        x.add(0, 9, 2);
        x.add(1, 4, 2);
        x.add(1, 3, 1);
        x.add(1, 8, 1);
        // Stream 1, MISRA: 4 at 1, TAKEN 1. SAVING: 4 at 2; 8 at 2, ERROR 1.
        due("join", x.join(0, 1), 11);
        counters(x, 0, 2, 3, 4, 0, 9, 1, 0);
        due("TAKEN", x.state(0, 1), 2);
        // SAVING: 3: 5 + 2, ERROR 2; 9: 2 + 2, ERROR 2; 4: 2 + 2, ERROR 2; 8: 2 + 2, ERROR 3.
        counters(x, 0, 3, 4, 4, 2, 3, 7, 2);
        due("count", x.count(0, 3), 6);
        due("count", x.count(0, 8), 1);
        due("the second stays", x.total(1), 4);
        counters(x, 1, 2, 4, 1, 0);
        counters(x, 1, 3, 4, 2, 0, 8, 2, 1);
        due("audit", x.audit(0), 0);
        due("join with itself", x.join(0, 0), 22);
        counters(x, 0, 2, 3, 8, 0, 9, 2, 0);
        due("TAKEN", x.state(0, 1), 4);
        counters(x, 0, 3, 4, 8, 4, 3, 14, 4);
        due("count", x.count(0, 3), 12);
        for (int s : new int[] {-1, 4, FAR, LOW}) {
            due("join to none", x.join(s, 0), -1);
            due("join with none", x.join(0, s), -1);
        }
        due("total", x.total(0), 22);
    }

    private static void joinOrder() {
        FrequencySketches x = small();
        x.add(0, 9, 1);
        x.add(0, 5, 1);
        x.add(0, 7, 1);
        counters(x, 0, 3, 9, 1, 0, 5, 1, 0, 7, 1, 0);
        due("join with an empty one", x.join(0, 1), 3);
        counters(x, 0, 3, 5, 1, 0, 7, 1, 0, 9, 1, 0);
        counters(x, 0, 2, 9, 1, 0, 5, 1, 0, 7, 1, 0);
        x.add(0, 7, 1);
        x.add(0, 5, 1);
        counters(x, 0, 3, 9, 1, 0, 7, 2, 0, 5, 2, 0);
    }

    private static void joinMisra() {
        FrequencySketches x = new FrequencySketches(31, 5, 1, 3);
        x.add(0, 1, 9);
        x.add(0, 2, 2);
        x.add(0, 3, 5);
        x.add(1, 6, 5);
        x.add(1, 5, 7);
        x.add(1, 3, 1);
        x.join(0, 1);
        // 9, 2, 6, 5, 7: the fourth is 5.
        counters(x, 0, 2, 1, 4, 0, 3, 1, 0, 5, 2, 0);
        due("TAKEN", x.state(0, 1), 5);
        x.clear(0);
        x.clear(1);
        for (int k = 1; k <= 3; k++) {
            x.add(0, k, 2);
            x.add(1, k + 10, 2);
        }
        x.join(0, 1);
        counters(x, 0, 2);
        due("like numbers count each", x.state(0, 1), 2);
    }

    private static void joinLimit() {
        FrequencySketches x = small();
        fill(x, 15);
        due("join with an empty one at the most", x.join(0, 1), MOST);
        x.add(1, 2, 1);
        due("n too great", x.join(0, 1), -1);
        due("n too great", x.join(1, 0), -1);
        due("n too great", x.join(0, 0), -1);
        due("total", x.total(0), MOST);
        due("total", x.total(1), 1);
        due("cell", x.cell(1, 0, 0, x.hash(0, 2)), 1);
        counters(x, 1, 3, 2, 1, 0);
    }

    private static void total() {
        FrequencySketches x = small();
        x.add(2, 1, 17);
        due("total", x.total(2), 17);
        due("total", x.total(1), 0);
        for (int s : new int[] {-1, 4, FAR, LOW}) {
            due("total(" + s + ")", x.total(s), -1);
        }
    }

    private static void estimate() {
        FrequencySketches x = new FrequencySketches(7, 3, 2, 2);
        x.pair(0, 1, 0);
        x.pair(1, 2, 0);
        // Columns by row: key 1 is at 1, 2; key 4 at 1, 1; key 2 at 2, 1.
        x.add(0, 1, 5);
        x.add(0, 4, 2);
        x.add(0, 2, 1);
        // MISRA: 1 at 4, 4 at 1, TAKEN 1. SAVING: 2 at 3, ERROR 2; 1 at 5.
        long[][] one = {{5, 0, 5}, {5, 0, 5}, {4, 4, 5}, {5, 5, 5}, {5, 5, 5}};
        long[][] four = {{3, 0, 3}, {2, 0, 2}, {1, 1, 2}, {3, 0, 3}, {1, 1, 2}};
        long[][] two = {{1, 0, 1}, {1, 0, 1}, {0, 0, 1}, {3, 1, 3}, {1, 1, 1}};
        for (int sketch = 0; sketch < 5; sketch++) {
            for (int side = 0; side < 3; side++) {
                due("estimate(0, " + sketch + ", 1, " + side + ")", x.estimate(0, sketch, 1, side), one[sketch][side]);
                due("estimate(0, " + sketch + ", 4, " + side + ")", x.estimate(0, sketch, 4, side), four[sketch][side]);
                due("estimate(0, " + sketch + ", 2, " + side + ")", x.estimate(0, sketch, 2, side), two[sketch][side]);
            }
        }
        int[][] bad = {{-1, 0, 0, 0}, {4, 0, 0, 0}, {0, -1, 0, 0}, {0, 5, 0, 0}, {0, 0, -1, 0}, {0, 0, 7, 0},
            {0, 0, 0, -1}, {0, 0, 0, 3}, {0, 4, 0, 3}, {FAR, FAR, FAR, FAR}, {LOW, LOW, LOW, LOW}};
        for (int[] b : bad) {
            due("a wrong estimate", x.estimate(b[0], b[1], b[2], b[3]), -1);
        }
    }

    private static void count() {
        FrequencySketches x = new FrequencySketches(1000, 10, 2, 3);
        for (int k = 0; k < 300; k++) {
            x.add(0, 3 * k, 1 + k % 3);
        }
        due("different keys", x.state(0, 4), 300);
        due("count", x.count(0, 6), 3);
        due("count", x.count(0, 1008), 0);
        due("no key", x.count(0, 1009), -1);
        due("no key", x.count(0, -1), -1);
        due("no stream", x.count(4, 0), -1);
        due("no stream", x.count(-1, 0), -1);
        x.copy(1, 0);
        x.add(0, 6, 4);
        due("count of a known key", x.count(0, 6), 7);
        x.add(0, 1, 1);
        due("the 301st key", x.count(0, 6), -1);
        due("the 301st key", x.state(0, 4), -1);
        due("the 301st key", x.audit(0), -1);
        x.add(2, 6, 1);
        due("join with a known key", x.join(2, 1) + x.count(2, 6), 600 + 1 + 4);
        x.join(2, 0);
        due("join with GONE", x.count(2, 6), -1);
        x.join(0, 3);
        due("GONE join with empty", x.count(0, 6), -1);
        x.copy(3, 0);
        due("copy of GONE", x.count(3, 6), -1);
        x.clear(3);
        due("cleared", x.count(3, 6), 0);
        x.add(3, 2, 1);
        x.join(3, 1);
        due("301 by putting together", x.count(3, 2), -1);
        x.copy(3, 1);
        due("another one copied", x.count(3, 6), 3);
        x.join(3, 3);
        due("with itself", x.count(3, 6), 6);
    }

    private static void cell() {
        FrequencySketches x = small();
        x.add(0, 6, 4);
        for (int r = 0; r < 3; r++) {
            for (int c = 0; c < 5; c++) {
                long want = x.hash(r, 6) == c ? 4 : 0;
                due("cell", x.cell(0, 0, r, c), want);
                due("cell", x.cell(0, 1, r, c), want);
            }
        }
        int[][] bad = {{-1, 0, 0, 0}, {4, 0, 0, 0}, {0, -1, 0, 0}, {0, 2, 0, 0}, {0, 3, 0, 0}, {0, 4, 0, 0},
            {0, 0, -1, 0}, {0, 0, 3, 0}, {0, 0, 0, -1}, {0, 0, 0, 5}, {0, 1, 0, 5}, {FAR, FAR, FAR, FAR}};
        for (int[] b : bad) {
            due("a wrong cell", x.cell(b[0], b[1], b[2], b[3]), -1);
        }
    }

    private static void counter() {
        FrequencySketches x = new FrequencySketches(31, 5, 2, 2);
        x.add(1, 8, 3);
        counters(x, 1, 2, 8, 3, 0);
        counters(x, 1, 3, 8, 3, 0);
        x.add(1, 6, 1);
        x.add(1, 7, 1);
        counters(x, 1, 2, 8, 2, 0);
        counters(x, 1, 3, 7, 2, 1, 8, 3, 0);
        int[][] bad = {{-1, 2, 0, 0}, {4, 2, 0, 0}, {1, 1, 0, 0}, {1, 4, 0, 0}, {1, 0, 0, 0}, {1, 2, -1, 0},
            {1, 2, 1, 0}, {1, 3, 2, 0}, {1, 3, 0, -1}, {1, 3, 0, 3}, {1, 2, 0, 3}, {FAR, FAR, FAR, FAR}};
        for (int[] b : bad) {
            due("a wrong counter", x.counter(b[0], b[1], b[2], b[3]), -1);
        }
    }

    private static void state() {
        FrequencySketches x = new FrequencySketches(31, 5, 2, 2);
        x.add(0, 1, 3);
        long[] one = {1, 0, 1, 0, 1};
        for (int w = 0; w < 5; w++) {
            due("state(0, " + w + ")", x.state(0, w), one[w]);
        }
        x.add(0, 2, 2);
        x.add(0, 3, 2);
        long[] three = {1, 2, 2, 3, 3};
        for (int w = 0; w < 5; w++) {
            due("state(0, " + w + ")", x.state(0, w), three[w]);
        }
        for (int w : new int[] {-1, 5, FAR, LOW}) {
            due("state(0, " + w + ")", x.state(0, w), -1);
        }
        due("no stream", x.state(4, 0), -1);
        due("no stream", x.state(-1, 4), -1);
    }

    private static void report() {
        FrequencySketches x = new FrequencySketches(11, 256, 1, 4);
        x.pair(0, 1, 0);
        x.add(0, 3, 4);
        x.add(0, 9, 2);
        x.add(0, 1, 2);
        x.add(0, 5, 1);
        x.add(0, 7, 1);
        // n is 10; PLAIN tells each count.
        due("4 * 2 is below 10", x.report(0, 0, 2, false), 0);
        due("4 * 3 is above 10", x.report(0, 0, 3, false), 1);
        due("2 * 5 is not above 10", x.report(0, 0, 5, false), 1);
        due("2 * 6 is above 10", x.report(0, 0, 6, false), 3);
        due("all", x.report(0, 0, 11, false), 5);
        long[] keys = {3, 1, 9, 5, 7};
        long[] numbers = {4, 2, 2, 1, 1};
        for (int i = 0; i < 5; i++) {
            due("reported", x.reported(i, 0), keys[i]);
            due("reported", x.reported(i, 1), numbers[i]);
        }
        due("PLAIN is sure of nothing", x.report(0, 0, 100000, true), 0);
        due("nothing is kept", x.reported(0, 0), -1);
        // MISRA: 3 at 3, 9 at 1, 1 at 1, TAKEN 1.
        due("MISRA's HIGH", x.report(0, 2, 6, false), 3);
        due("MISRA's HIGH of all keys", x.report(0, 2, 11, false), 11);
        due("MISRA's LOW", x.report(0, 2, 11, true), 3);
        due("reported", x.reported(0, 1), 3);
        due("SAVING's LOW", x.report(0, 3, 11, true), 4);
        due("SAVING's HIGH of all keys", x.report(0, 3, 6, false), 11);
        due("all four together", x.report(0, 4, 11, false), 5);
        due("one part", x.report(0, 4, 1, false), 0);
        int[][] bad = {{-1, 0, 1}, {4, 0, 1}, {0, -1, 1}, {0, 5, 1}, {0, 0, 0}, {0, 0, -1}, {0, 0, 100001},
            {FAR, FAR, FAR}, {LOW, LOW, LOW}};
        x.report(0, 4, 11, false);
        for (int[] b : bad) {
            due("a wrong report", x.report(b[0], b[1], b[2], true), -1);
            due("what was is kept", x.reported(4, 0), 7);
        }
        due("an empty stream", x.report(1, 0, 100000, false), 0);
    }

    private static void reportOfMany() {
        FrequencySketches x = new FrequencySketches(65521, 1, 1, 1);
        x.add(0, 5, 7);
        due("all keys", x.report(0, 0, 2, false), 65521);
        due("the last that is kept", x.reported(299, 0), 299);
        due("its HIGH", x.reported(299, 1), 7);
        due("300 at most", x.reported(300, 0), -1);
        x = new FrequencySketches(601, 256, 1, 1);
        x.pair(0, 1, 0);
        for (int k = 0; k < 150; k++) {
            x.add(0, k, k == 149 ? 1 : 2);
        }
        // A key's number is that of its remainder by 256: 2 for those below 149, 1 for 149.
        due("keys of PLAIN", x.report(0, 0, 300, false), 149 * 2 + 89 + 2);
        due("kept", x.reported(148, 0), 148);
        due("kept", x.reported(149, 0), 256);
        due("kept", x.reported(297, 0), 404);
        due("a greater one that came late", x.reported(298, 0), 512);
        due("a greater one that came late", x.reported(299, 0), 513);
        due("its HIGH", x.reported(299, 1), 2);
        due("300 at most", x.reported(300, 1), -1);
        x = small();
        fill(x, 15);
        due("a product that is too great for a long", x.report(0, 0, 100000, false) > 0, true);
        boolean found = false;
        for (int i = 0; i < 31; i++) {
            found |= x.reported(i, 0) == 1 && x.reported(i, 1) == MOST;
        }
        due("key 1", found, true);
        due("sure", x.report(0, 2, 100000, true), 1);
        due("sure", x.reported(0, 1), MOST);
    }

    private static void reported() {
        FrequencySketches x = small();
        due("no report", x.reported(0, 0), -1);
        x.add(0, 3, 5);
        due("report", x.report(0, 3, 1000, true), 1);
        x.add(0, 3, 5);
        x.clear(0);
        due("reported", x.reported(0, 0), 3);
        due("reported", x.reported(0, 1), 5);
        int[][] bad = {{-1, 0}, {1, 0}, {0, -1}, {0, 2}, {FAR, 0}, {LOW, 1}};
        for (int[] b : bad) {
            due("a wrong reported", x.reported(b[0], b[1]), -1);
        }
    }

    private static void overcounts() {
        FrequencySketches x = new FrequencySketches(5, 2, 1, 1);
        x.add(0, 1, 3);
        x.add(0, 2, 4);
        // Remainders 0, 2, 4 and 1, 3: 3 * 2 + 2 * 1 of the 20 PAIRS bring two keys together.
        due("overcounts", x.overcounts(0, 1), 4 * 8);
        due("overcounts", x.overcounts(0, 2), 3 * 8);
        due("overcounts", x.overcounts(0, 0), 7 * 8);
        due("an empty stream", x.overcounts(1, 0), 0);
        for (int bad : new int[] {-1, 5, FAR, LOW}) {
            due("no key", x.overcounts(0, bad), -1);
            due("no stream", x.overcounts(bad, 0), -1);
        }
        FrequencySketches wide = new FrequencySketches(5, 5, 1, 1);
        wide.add(0, 1, 3);
        due("no two keys meet", wide.overcounts(0, 2), 0);
        FrequencySketches most = new FrequencySketches(131, 1, 1, 1);
        fill(most, 14);
        due("P 131, the most keys", most.overcounts(0, 0), 100_000_000_000_000L * 131 * 130);
        most.add(0, 0, 1);
        due("n above", most.overcounts(0, 0), -1);
        FrequencySketches great = new FrequencySketches(132, 1, 1, 1);
        great.add(0, 1, 1);
        due("P above", great.overcounts(0, 0), -1);
    }

    private static void audit() {
        FrequencySketches x = small();
        for (int k = 0; k < 31; k++) {
            x.add(k % 3, k * k % 31, 1 + k % 5);
            due("audit", x.audit(k % 3), 0);
        }
        x.join(0, 1);
        due("audit", x.audit(0), 0);
        x.join(2, 0);
        due("audit", x.audit(2), 0);
        for (int s : new int[] {-1, 4, FAR, LOW}) {
            due("audit(" + s + ")", x.audit(s), -1);
        }
    }

    public static void main(String[] args) {
        promise = 1; newObject();
        promise = 2; size();
        promise = 3; pair();
        promise = 4; hash();
        promise = 5; add(); addToCells(); addToMisra(); addToSaving();
        promise = 6; clear();
        promise = 7; copy();
        promise = 8; join(); joinOrder(); joinMisra(); joinLimit();
        promise = 9; total();
        promise = 10; estimate();
        promise = 11; count();
        promise = 12; cell();
        promise = 13; counter();
        promise = 14; state();
        promise = 15; report(); reportOfMany();
        promise = 16; reported();
        promise = 17; overcounts();
        promise = 18; audit();
        System.out.println(wrong == 0 ? "all promises are kept" : wrong + " answers are not as due");
        if (wrong != 0) {
            System.exit(1);
        }
    }
}
