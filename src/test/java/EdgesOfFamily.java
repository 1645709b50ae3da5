/** Edges of a new object, its sizes, its PAIRS and its hashes: promises 1 to 4. */
final class EdgesOfFamily {
    private EdgesOfFamily() {
    }

    private static int primeOf(int number) {
        return new Watched(number, 1, 1, 1).prime;
    }

    private static boolean isPrime(int number) {
        for (int d = 2; d < number; d++) {
            if (number % d == 0) {
                return false;
            }
        }
        return number >= 2;
    }

    @Says(promise = 1, sentence = "P is the least prime not below the number")
    static void leastPrimeNotBelow() {
        for (int[] span : new int[][] {{2, 1100}, {62990, 63030}, {65400, 65521}}) {
            int want = span[1];
            while (!isPrime(want)) {
                want++;
            }
            for (int number = span[1]; number >= span[0]; number--) {
                want = isPrime(number) ? number : want;
                Edge.due("P of " + number, primeOf(number), want);
            }
        }
    }

    @Says(promise = 1, sentence = "the number, which is taken into 2 .. 65521;")
    static void primeTooSmallOrTooLarge() {
        for (int small : new int[] {Edge.MIN, -65521, -3, -2, -1, 0, 1, 2}) {
            Edge.due("P of " + small, primeOf(small), 2);
        }
        Edge.due("P of 3", primeOf(3), 3);
        Edge.due("P of 65519", primeOf(65519), 65519);
        for (int large : new int[] {65520, 65521, 65522, 65536, 65537, 65539, Edge.MAX}) {
            Edge.due("P of " + large, primeOf(large), 65521);
        }
    }

    @Says(promise = 1, sentence = "WIDTH is taken into 1 .. 256,")
    static void widthTooSmallOrTooLarge() {
        int[][] widths = {{Edge.MIN, 1}, {-1, 1}, {0, 1}, {1, 1}, {2, 2}, {255, 255}, {256, 256}, {257, 256},
            {512, 256}, {Edge.MAX, 256}};
        for (int[] w : widths) {
            Watched x = new Watched(1009, w[0], 1, 1);
            Edge.due("WIDTH of " + w[0], x.size(1), w[1]);
            Edge.due("the last cell of WIDTH " + w[0], x.cell(0, Edge.PLAIN, 0, w[1] - 1), 0);
            Edge.due("the cell behind it", x.cell(0, Edge.PLAIN, 0, w[1]), Edge.NONE);
            x.pair(0, 1, 0);
            Edge.due("a hash by WIDTH " + w[0], x.hash(0, 1008), 1008 % w[1]);
        }
    }

    @Says(promise = 1, sentence = "ROWS into 1 .. 8,")
    static void rowsTooFewOrTooMany() {
        int[][] rows = {{Edge.MIN, 1}, {-1, 1}, {0, 1}, {1, 1}, {2, 2}, {7, 7}, {8, 8}, {9, 8}, {16, 8}, {Edge.MAX, 8}};
        for (int[] r : rows) {
            Watched x = new Watched(31, 3, r[0], 1);
            Edge.due("ROWS of " + r[0], x.size(2), r[1]);
            Edge.due("the last row of ROWS " + r[0], x.cell(0, Edge.PLAIN, r[1] - 1, 0), 0);
            Edge.due("the row behind it", x.cell(0, Edge.PLAIN, r[1], 0), Edge.NONE);
            Edge.due("a PAIR of the last row", x.pair(r[1] - 1, 1, 2), true);
            Edge.due("a hash in the last row", x.hash(r[1] - 1, 0), 2);
            Edge.due("a hash in the row behind it", x.hash(r[1], 0), Edge.NONE);
        }
    }

    @Says(promise = 1, sentence = "COUNTERS into 1 .. 64.")
    static void countersTooFewOrTooMany() {
        int[][] counters = {{Edge.MIN, 1}, {-1, 1}, {0, 1}, {1, 1}, {2, 2}, {63, 63}, {64, 64}, {65, 64}, {128, 64},
            {Edge.MAX, 64}};
        for (int[] c : counters) {
            Watched x = new Watched(131, 1, 1, c[0]);
            Edge.due("COUNTERS of " + c[0], x.size(3), c[1]);
            Edge.addEach(x, 0, 0, c[1]);
            Edge.due("counters of MISRA, full", x.state(0, Edge.STATE_OF_MISRA), c[1]);
            Edge.due("counters of SAVING, full", x.state(0, Edge.STATE_OF_SAVING), c[1]);
            Edge.due("TAKEN, full", x.state(0, Edge.STATE_TAKEN), 0);
            x.add(0, 130, 1);
            Edge.due("TAKEN, one more key", x.state(0, Edge.STATE_TAKEN), 1);
            Edge.due("counters of SAVING, one more key", x.state(0, Edge.STATE_OF_SAVING), c[1]);
        }
    }

    @Says(promise = 2, sentence = "P 0, WIDTH 1, ROWS 2, COUNTERS 3.")
    static void sizes() {
        Watched x = new Watched(30, 6, 2, 9);
        Edge.due("P", x.size(0), 31);
        Edge.due("WIDTH", x.size(1), 6);
        Edge.due("ROWS", x.size(2), 2);
        Edge.due("COUNTERS", x.size(3), 9);
        Edge.fill(x, 1, 6);
        Edge.due("P of a busy object", x.size(0), 31);
        Edge.due("COUNTERS of a busy object", x.size(3), 9);
    }

    @Says(promise = 2, sentence = "NONE for others.")
    static void noSuchSize() {
        Watched x = new Watched(30, 6, 2, 9);
        for (int what : new int[] {Edge.MIN, -2, -1, 4, 5, 256, Edge.MAX}) {
            Edge.due("size(" + what + ")", x.size(what), Edge.NONE);
        }
    }

    @Says(promise = {3}, sentence = "A PAIR a (1 .. P - 1), b (0 .. P - 1):")
    static void whatIsAPair() {
        Watched x = new Watched(7, 256, 1, 1);
        for (int a = -1; a <= 8; a++) {
            for (int b = -1; b <= 8; b++) {
                boolean isOne = a >= 1 && a <= 6 && b >= 0 && b <= 6;
                Edge.due("pair(0, " + a + ", " + b + ")", x.pair(0, a, b), isOne);
            }
        }
        Watched two = new Watched(2, 2, 1, 1);
        Edge.due("P 2: a 0", two.pair(0, 0, 0), false);
        Edge.due("P 2: a 1, b 0", two.pair(0, 1, 0), true);
        Edge.due("P 2: a 1, b 1", two.pair(0, 1, 1), true);
        Edge.due("P 2: b 2", two.pair(0, 1, 2), false);
        Edge.due("P 2: a 2", two.pair(0, 2, 1), false);
        Watched great = new Watched(65521, 256, 1, 1);
        Edge.due("P 65521: a 65520, b 65520", great.pair(0, 65520, 65520), true);
        Edge.due("P 65521: a 65521", great.pair(0, 65521, 0), false);
        Edge.due("P 65521: b 65521", great.pair(0, 1, 65521), false);
    }

    @Says(promise = 3, sentence = "Row i has the PAIR a, b: true.")
    static void rowHasThePair() {
        Watched x = new Watched(251, 256, 8, 1);
        for (int row = 0; row < 8; row++) {
            Edge.due("pair", x.pair(row, row + 1, 250 - row), true);
        }
        for (int row = 0; row < 8; row++) {
            Edge.due("b of row " + row, x.hash(row, 0), 250 - row);
            Edge.due("a and b of row " + row, x.hash(row, 1), (row + 1 + 250 - row) % 251);
        }
        Edge.due("the same PAIR again", x.pair(7, 8, 243), true);
        Edge.due("another PAIR of the first row", x.pair(0, 250, 0), true);
        Edge.due("the first row has it", x.hash(0, 1), 250);
        Edge.due("the second row stays", x.hash(1, 0), 249);
        Edge.due("the last row stays", x.hash(7, 0), 243);
        x.add(2, 1, 5);
        Edge.due("a key's cell is by the new PAIR", x.cell(2, Edge.PLAIN, 0, 250), 5);
    }

    @Says(promise = 3, sentence = "False, changing nothing: there is no such row")
    static void pairOfNoRow() {
        Watched x = Edge.tiny();
        String before = Edge.picture(x);
        for (int row : new int[] {Edge.MIN, -2, -1, 2, 3, 8, Edge.MAX}) {
            Edge.due("pair(" + row + ", 1, 0)", x.pair(row, 1, 0), false);
        }
        Edge.due("nothing has changed", Edge.picture(x), before);
    }

    @Says(promise = 3, sentence = "False, changing nothing: there is no such row or PAIR,")
    static void noSuchPair() {
        Watched x = Edge.tiny();
        String before = Edge.picture(x);
        int[][] pairs = {{0, 0}, {-1, 0}, {5, 0}, {6, 1}, {Edge.MIN, 0}, {Edge.MAX, 0}, {1, -1}, {1, 5}, {2, 6},
            {1, Edge.MIN}, {1, Edge.MAX}, {0, 5}};
        for (int[] p : pairs) {
            Edge.due("pair(0, " + p[0] + ", " + p[1] + ")", x.pair(0, p[0], p[1]), false);
            Edge.due("pair(1, " + p[0] + ", " + p[1] + ")", x.pair(1, p[0], p[1]), false);
        }
        Edge.due("nothing has changed", Edge.picture(x), before);
    }

    @Says(promise = 3, sentence = "or some stream isn't empty (n is above 0).")
    static void pairWithAStreamThatIsNotEmpty() {
        Watched x = new Watched(5, 256, 2, 2);
        int before = x.hash(0, 0);
        for (int stream = 0; stream < 4; stream++) {
            x.add(stream, 3, 1);
            Edge.due("pair, stream " + stream + " isn't empty", x.pair(0, 1, (before + 1) % 5), false);
            Edge.due("the PAIR stays", x.hash(0, 0), before);
            x.clear(stream);
            Edge.due("pair, it is empty again", x.pair(0, 1, before), true);
        }
        x.add(0, 3, 1);
        x.copy(1, 0);
        x.clear(0);
        Edge.due("pair, one is a copy", x.pair(0, 1, (before + 1) % 5), false);
        x.join(2, 1);
        x.clear(1);
        Edge.due("pair, one was put together", x.pair(0, 1, (before + 1) % 5), false);
        x.copy(2, 3);
        Edge.due("pair, an empty one was copied", x.pair(0, 1, (before + 1) % 5), true);
        Edge.due("the PAIR is another", x.hash(0, 0), (before + 1) % 5);
        Edge.due("a refused add", x.add(0, 5, 1), Edge.NONE);
        Edge.due("pair after it", x.pair(0, 1, before), true);
    }

    @Says(promise = 4, sentence = "The hash of a key in a row.")
    static void hashOfEachKey() {
        Watched x = new Watched(7, 3, 2, 1);
        x.pair(0, 3, 5);
        x.pair(1, 6, 6);
        for (int key = 0; key < 7; key++) {
            Edge.due("hash(0, " + key + ")", x.hash(0, key), (3 * key + 5) % 7 % 3);
            Edge.due("hash(1, " + key + ")", x.hash(1, key), (6 * key + 6) % 7 % 3);
        }
    }

    @Says(promise = 4, sentence = "the hash of a key x is ((a * x + b) mod P) mod WIDTH.")
    static void hashOfGreatProducts() {
        Watched x = new Watched(65521, 256, 1, 1);
        int[] edges = {0, 1, 2, 255, 256, 32767, 32768, 46340, 46341, 65519, 65520};
        for (int a : new int[] {1, 2, 46341, 65519, 65520}) {
            x.pair(0, a, 65520);
            for (int key : edges) {
                // a * key goes beyond an int.
                Edge.due("a " + a + ", key " + key, x.hash(0, key), ((long) a * key + 65520) % 65521 % 256);
            }
        }
        Watched narrow = new Watched(5, 2, 1, 1);
        narrow.pair(0, 1, 4);
        Edge.due("first mod P: (3 + 4) mod 5 mod 2", narrow.hash(0, 3), 0);
        Watched one = new Watched(5, 1, 1, 1);
        Edge.due("WIDTH 1", one.hash(0, 4), 0);
        Watched wide = new Watched(5, 6, 1, 1);
        wide.pair(0, 1, 0);
        Edge.due("WIDTH above P", wide.hash(0, 4), 4);
    }

    @Says(promise = {1, 4}, sentence = "Row i has at first a = 1 + (7919 * i + 13) mod (P - 1), b = (104729 * i + 5) mod P.")
    static void firstPairs() {
        for (int prime : new int[] {2, 3, 5, 7, 13, 131, 251}) {
            Watched x = new Watched(prime, 256, 8, 1);
            for (int row = 0; row < 8; row++) {
                int a = 1 + (7919 * row + 13) % (prime - 1);
                int b = (104729 * row + 5) % prime;
                Edge.due("P " + prime + ", b of row " + row, x.hash(row, 0), b);
                Edge.due("P " + prime + ", a and b of row " + row, x.hash(row, 1), (a + b) % prime);
            }
        }
        Watched x = new Watched(65521, 256, 8, 1);
        // 7919 * 7 + 13 is below 65520, 104729 * 7 + 5 goes round eleven times.
        Edge.due("b of row 7", x.hash(7, 0), (733108 - 11 * 65521) % 256);
        Edge.due("a and b of row 7", x.hash(7, 1), (55447 + 733108 - 11 * 65521) % 65521 % 256);
        Edge.due("b of row 0", x.hash(0, 0), 5);
        Edge.due("a and b of row 0", x.hash(0, 1), 19);
    }

    @Says(promise = 4, sentence = "NONE for others.")
    static void noSuchHash() {
        Watched x = new Watched(7, 3, 2, 1);
        for (int row : new int[] {Edge.MIN, -1, 2, 8, Edge.MAX}) {
            Edge.due("hash(" + row + ", 0)", x.hash(row, 0), Edge.NONE);
        }
        for (int key : new int[] {Edge.MIN, -1, 7, 8, Edge.MAX}) {
            Edge.due("hash(0, " + key + ")", x.hash(0, key), Edge.NONE);
            Edge.due("hash(1, " + key + ")", x.hash(1, key), Edge.NONE);
        }
        Edge.due("hash(2, 7)", x.hash(2, 7), Edge.NONE);
    }

    @Says(promise = {4, 5, 10, 11, 17}, sentence = "THE FAMILY: a prime P; KEYS are 0 .. P - 1.")
    static void whatIsAKey() {
        for (int prime : new int[] {2, 131}) {
            Watched x = new Watched(prime, 2, 1, 1);
            for (int key : new int[] {0, prime - 1}) {
                Edge.due("hash of key " + key, x.hash(0, key) >= 0, true);
                Edge.due("add of key " + key, x.add(0, key, 1) > 0, true);
                Edge.due("estimate of key " + key, x.estimate(0, Edge.PLAIN, key, Edge.HIGH) >= 1, true);
                Edge.due("count of key " + key, x.count(0, key), 1);
                Edge.due("overcounts of key " + key, x.overcounts(0, key) >= 0, true);
            }
            for (int key : new int[] {Edge.MIN, -1, prime, prime + 1, Edge.MAX}) {
                Edge.due("hash of key " + key, x.hash(0, key), Edge.NONE);
                Edge.due("add of key " + key, x.add(0, key, 1), Edge.NONE);
                Edge.due("estimate of key " + key, x.estimate(0, Edge.PLAIN, key, Edge.HIGH), Edge.NONE);
                Edge.due("count of key " + key, x.count(0, key), Edge.NONE);
                Edge.due("overcounts of key " + key, x.overcounts(0, key), Edge.NONE);
            }
        }
        Watched great = new Watched(65521, 256, 8, 64);
        Edge.due("the greatest key of all", great.add(0, 65520, 1), 1);
        Edge.due("its count", great.count(0, 65520), 1);
        Edge.due("a key above it", great.add(0, 65521, 1), Edge.NONE);
    }
}
