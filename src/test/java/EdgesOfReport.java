/** Edges of reports and overcounts: promises 15, 16 and 17. */
final class EdgesOfReport {
    private static final long OVERCOUNTS_MOST = 100_000_000_000_000L;

    private EdgesOfReport() {
    }

    /** PLAIN and CAREFUL tell each count: 3 came 4 times, 9 and 1 twice, 5 and 7 once; n is 10. */
    private static Watched told() {
        Watched x = new Watched(11, 256, 1, 4);
        x.pair(0, 1, 0);
        x.add(0, 3, 4);
        x.add(0, 9, 2);
        x.add(0, 1, 2);
        x.add(0, 5, 1);
        x.add(0, 7, 1);
        // MISRA: 3 at 3, 9 at 1, 1 at 1, TAKEN 1. SAVING: 9 at 2, 1 at 2, 7 at 2, ERROR 1, 3 at 4.
        return x;
    }

    /** The latest report is this: key and number of each, and none behind them. */
    private static void dueReported(Watched x, long... want) {
        StringBuilder got = new StringBuilder();
        StringBuilder due = new StringBuilder();
        for (int i = 0; i <= want.length / 2; i++) {
            for (int what = 0; what < 2; what++) {
                got.append(" ").append(x.reported(i, what));
                due.append(" ").append(2 * i < want.length ? want[2 * i + what] : Edge.NONE);
            }
        }
        Edge.due("the report", got.toString(), due.toString());
    }

    @Says(promise = 15, sentence = "Keys whose HIGH (sure false), or LOW (sure true),")
    static void highOrLow() {
        Watched x = told();
        Edge.due("MISRA's HIGH", x.report(0, 2, 6, false), 3);
        dueReported(x, 3, 4, 1, 2, 9, 2);
        Edge.due("MISRA's LOW", x.report(0, 2, 6, true), 1);
        dueReported(x, 3, 3);
        Edge.due("SAVING's LOW", x.report(0, 3, 11, true), 4);
        dueReported(x, 3, 4, 1, 2, 9, 2, 7, 1);
        // A key that never came has a HIGH, too: 1 by MISRA.
        Edge.due("MISRA's HIGH of all keys", x.report(0, 2, 11, false), 11);
        dueReported(x, 3, 4, 1, 2, 9, 2, 0, 1, 2, 1, 4, 1, 5, 1, 6, 1, 7, 1, 8, 1, 10, 1);
        Edge.due("SAVING's HIGH of all keys", x.report(0, 3, 6, false), 11);
        Edge.due("PLAIN is sure of none", x.report(0, 0, 100000, true), 0);
        Edge.due("CAREFUL is sure of none", x.report(0, 1, 100000, true), 0);
    }

    @Says(promise = 15, sentence = "by a sketch (0 to 4)")
    static void bySketch() {
        Watched x = told();
        int[] high = {5, 5, 11, 11, 5};
        int[] low = {0, 0, 3, 4, 4};
        for (int sketch = 0; sketch <= 4; sketch++) {
            Edge.due("HIGH by sketch " + sketch, x.report(0, sketch, 11, false), high[sketch]);
            Edge.due("LOW by sketch " + sketch, x.report(0, sketch, 11, true), low[sketch]);
        }
        Edge.due("sketch -1", x.report(0, -1, 11, false), Edge.NONE);
        Edge.due("sketch 5", x.report(0, 5, 11, false), Edge.NONE);
        Watched crossed = new Watched(7, 3, 2, 1);
        crossed.pair(0, 1, 0);
        crossed.pair(1, 2, 0);
        crossed.add(0, 1, 5);
        crossed.add(0, 4, 2);
        crossed.add(0, 2, 1);
        // HIGH of key 4 by PLAIN is 3, by CAREFUL 2; n is 8.
        Edge.due("PLAIN", crossed.report(0, 0, 3, false), 2);
        dueReported(crossed, 1, 5, 4, 3);
        Edge.due("CAREFUL", crossed.report(0, 1, 3, false), 1);
        dueReported(crossed, 1, 5);
    }

    @Says(promise = 15, sentence = "times PARTS (1 .. 100000)")
    static void whatIsParts() {
        Watched x = told();
        Edge.due("PARTS 1", x.report(0, 0, 1, false), 0);
        Edge.due("PARTS 100000", x.report(0, 0, 100000, false), 5);
        for (int parts : new int[] {Edge.MIN, -1, 0, 100001, Edge.MAX}) {
            Edge.due("PARTS " + parts, x.report(0, 0, parts, false), Edge.NONE);
        }
        x.clear(0);
        Edge.due("PARTS 0 of an empty stream", x.report(0, 0, 0, false), Edge.NONE);
        // 10^5 comes of key 0, one of key 1: by PLAIN one times 100000 is not above 100001.
        Edge.fill(x, 0, 5);
        x.add(0, 1, 1);
        Edge.due("PARTS 100000, one of 100001", x.report(0, 0, 100000, false), 1);
    }

    @Says(promise = 15, sentence = "is above n: how many;")
    static void aboveN() {
        Watched x = told();
        Edge.due("4 * 2 is below 10", x.report(0, 0, 2, false), 0);
        Edge.due("4 * 3 is above 10", x.report(0, 0, 3, false), 1);
        Edge.due("2 * 5 is just 10", x.report(0, 0, 5, false), 1);
        Edge.due("2 * 6 is above 10", x.report(0, 0, 6, false), 3);
        Edge.due("1 * 10 is just 10", x.report(0, 0, 10, false), 3);
        Edge.due("1 * 11 is above 10", x.report(0, 0, 11, false), 5);
        x.add(0, 5, 1);
        Edge.due("2 * 5 is below 11", x.report(0, 0, 5, false), 1);
        Edge.due("2 * 6 is above 11", x.report(0, 0, 6, false), 4);
        Edge.due("0 * 100000 is not above 0", x.report(1, 0, 100000, false), 0);
        x.add(1, 4, 1);
        Edge.due("n * 1 is just n", x.report(1, 0, 1, false), 0);
        Edge.due("n * 2 is above n", x.report(1, 0, 2, false), 1);
    }

    @Says(promise = 15, sentence = "times PARTS (1 .. 100000) is above n:")
    static void aboveNThoughTheProductWrapsAround() {
        Watched x = new Watched(11, 256, 1, 4);
        x.pair(0, 1, 0);
        Edge.fill(x, 6, 15);
        // 10^15 times 9224, 10000, 18447, 100000: beyond a long, to either side.
        for (int parts : new int[] {2, 9223, 9224, 10000, 18446, 18447, 20000, 99999, 100000}) {
            for (int sketch = 0; sketch <= 4; sketch++) {
                Edge.due("HIGH by sketch " + sketch + ", PARTS " + parts, x.report(0, sketch, parts, false), 1);
            }
            Edge.due("LOW, PARTS " + parts, x.report(0, Edge.MISRA, parts, true), 1);
        }
        dueReported(x, 6, Edge.MOST);
    }

    @Says(promise = 15, sentence = "they are kept, the greatest first,")
    static void greatestFirst() {
        Watched x = new Watched(11, 256, 1, 4);
        x.pair(0, 1, 0);
        int[] times = {3, 9, 1, 7, 10, 2, 8, 4, 6, 5, 11};
        for (int key = 0; key < 11; key++) {
            x.add(0, key, times[key]);
        }
        Edge.due("how many", x.report(0, 0, 100, false), 11);
        dueReported(x, 10, 11, 4, 10, 1, 9, 6, 8, 3, 7, 8, 6, 9, 5, 7, 4, 0, 3, 5, 2, 2, 1);
    }

    @Says(promise = 15, sentence = "of like ones the lower key")
    static void likeOnes() {
        Watched x = told();
        Edge.due("how many", x.report(0, 0, 11, false), 5);
        dueReported(x, 3, 4, 1, 2, 9, 2, 5, 1, 7, 1);
        Watched all = new Watched(11, 1, 1, 1);
        all.add(0, 7, 3);
        Edge.due("all alike", all.report(0, 0, 2, false), 11);
        dueReported(all, 0, 3, 1, 3, 2, 3, 3, 3, 4, 3, 5, 3, 6, 3, 7, 3, 8, 3, 9, 3, 10, 3);
    }

    @Says(promise = 15, sentence = "(300 at most).")
    static void threeHundredAtMost() {
        // A key's cell is its remainder by 256: keys below 51 share theirs with a key above 255.
        Watched x = new Watched(307, 256, 1, 1);
        x.pair(0, 1, 0);
        Edge.addEach(x, 0, 0, 48);
        Edge.addEach(x, 0, 51, 255);
        Edge.due("just 300", x.report(0, 0, 1000, false), 300);
        Edge.due("the 300th", x.reported(299, 0), 303);
        Edge.due("its HIGH", x.reported(299, 1), 1);
        Edge.due("none behind it", x.reported(300, 0), Edge.NONE);
        x.add(0, 255, 1);
        Edge.due("301 in all", x.report(0, 0, 1000, false), 301);
        Edge.due("the 300th", x.reported(299, 0), 302);
        Edge.due("the 301st is not kept", x.reported(300, 0), Edge.NONE);
        Edge.due("the 301st is not kept", x.reported(300, 1), Edge.NONE);
        x.add(0, 50, 7);
        Edge.due("303 in all", x.report(0, 0, 1000, false), 303);
        Edge.due("a great one stays", x.reported(0, 0), 50);
        Edge.due("also the last key of all", x.reported(1, 0), 306);
        Edge.due("its HIGH", x.reported(1, 1), 8 - 1);
        Edge.due("the lowest of the others", x.reported(2, 0), 0);
        Edge.due("the 300th", x.reported(299, 0), 300);
        Watched great = new Watched(65521, 1, 1, 1);
        great.add(0, 9, 5);
        Edge.due("all keys", great.report(0, 0, 2, false), 65521);
        Edge.due("the first", great.reported(0, 0), 0);
        Edge.due("the 300th", great.reported(299, 0), 299);
        Edge.due("none behind it", great.reported(300, 0), Edge.NONE);
        Watched halves = new Watched(1009, 2, 1, 1);
        halves.pair(0, 1, 0);
        halves.add(0, 0, 2);
        halves.add(0, 1, 1);
        // Even keys have 2, odd ones 1: the even ones drive the odd ones out, and stay.
        Edge.due("all keys", halves.report(0, 0, 100, false), 1009);
        Edge.due("the second", halves.reported(1, 0), 2);
        Edge.due("the 300th", halves.reported(299, 0), 598);
        Edge.due("its HIGH", halves.reported(299, 1), 2);
        Edge.due("none behind it", halves.reported(300, 0), Edge.NONE);
    }

    @Says(promise = 15, sentence = "NONE, keeping what was, for others.")
    static void noSuchReport() {
        Watched x = told();
        x.add(1, 8, 9);
        x.report(0, 0, 6, false);
        for (boolean sure : new boolean[] {false, true}) {
            for (int stream : Edge.NO_STREAMS) {
                Edge.due("stream " + stream, x.report(stream, 0, 11, sure), Edge.NONE);
            }
            dueReported(x, 3, 4, 1, 2, 9, 2);
            for (int sketch : new int[] {Edge.MIN, -1, 5, 6, Edge.MAX}) {
                Edge.due("sketch " + sketch, x.report(1, sketch, 11, sure), Edge.NONE);
            }
            dueReported(x, 3, 4, 1, 2, 9, 2);
            for (int parts : new int[] {Edge.MIN, -1, 0, 100001, Edge.MAX}) {
                Edge.due("PARTS " + parts, x.report(1, 0, parts, sure), Edge.NONE);
            }
            dueReported(x, 3, 4, 1, 2, 9, 2);
        }
    }

    @Says(promise = 16, sentence = "Of the latest report: key i (what 0), its HIGH or LOW (1).")
    static void latest() {
        Watched x = told();
        x.report(0, 2, 6, false);
        Edge.due("the key", x.reported(0, 0), 3);
        Edge.due("its HIGH", x.reported(0, 1), 4);
        x.report(0, 2, 6, true);
        Edge.due("its LOW", x.reported(0, 1), 3);
        x.add(0, 3, 100);
        x.add(1, 8, 9);
        x.join(0, 1);
        x.clear(0);
        Edge.due("what was told stays: key", x.reported(0, 0), 3);
        Edge.due("what was told stays: LOW", x.reported(0, 1), 3);
        x.report(1, 4, 6, false);
        dueReported(x, 8, 9);
        x.report(1, 4, 1, false);
        dueReported(x);
        x.report(1, 4, 6, false);
        x.report(2, 4, 6, false);
        dueReported(x);
    }

    @Says(promise = 16, sentence = "NONE for others.")
    static void noSuchReported() {
        Watched x = told();
        Edge.due("no report yet", x.reported(0, 0), Edge.NONE);
        Edge.due("no report yet", x.reported(0, 1), Edge.NONE);
        x.report(0, 0, 11, false);
        for (int i : new int[] {Edge.MIN, -1, 5, 6, 11, 299, 300, Edge.MAX}) {
            Edge.due("reported(" + i + ", 0)", x.reported(i, 0), Edge.NONE);
            Edge.due("reported(" + i + ", 1)", x.reported(i, 1), Edge.NONE);
        }
        for (int what : new int[] {Edge.MIN, -1, 2, 3, Edge.MAX}) {
            Edge.due("reported(0, " + what + ")", x.reported(0, what), Edge.NONE);
            Edge.due("reported(4, " + what + ")", x.reported(4, what), Edge.NONE);
        }
    }

    private static long overcountsByHand(int prime, int width, long[] counts, int key) {
        long sum = 0;
        for (int a = 1; a < prime; a++) {
            for (int b = 0; b < prime; b++) {
                for (int other = 0; other < prime; other++) {
                    boolean alike = (a * other + b) % prime % width == (a * key + b) % prime % width;
                    sum += other != key && alike ? counts[other] : 0;
                }
            }
        }
        return sum;
    }

    @Says(promise = 17, sentence = "All overcounts of a key in a row of WIDTH cells, for all PAIRS of the family, together: for each other key that has a hash like it, its count.")
    static void overcounts() {
        for (int prime : new int[] {2, 3, 5, 7, 11, 13}) {
            for (int width = 1; width <= prime + 1; width++) {
                Watched x = new Watched(prime, width, 2, 1);
                long[] counts = new long[prime];
                for (int key = 0; key < prime; key += 2) {
                    counts[key] = 1 + 3 * key;
                    x.add(0, key, 1 + 3 * key);
                }
                for (int key = 0; key < prime; key++) {
                    Edge.due("P " + prime + ", WIDTH " + width + ", key " + key, x.overcounts(0, key),
                        overcountsByHand(prime, width, counts, key));
                }
                Edge.due("an empty stream", x.overcounts(1, 0), 0);
            }
        }
        Watched most = new Watched(131, 1, 1, 1);
        Edge.fill(most, 1, 14);
        Edge.due("the greatest of all", most.overcounts(0, 0), OVERCOUNTS_MOST * 131 * 130);
        Edge.due("its own count is none of them", most.overcounts(0, 1), 0);
    }

    @Says(promise = 17, sentence = "NONE for others,")
    static void noSuchOvercounts() {
        Watched x = Edge.busy();
        for (int stream : Edge.NO_STREAMS) {
            Edge.due("overcounts(" + stream + ", 1)", x.overcounts(stream, 1), Edge.NONE);
        }
        for (int key : new int[] {Edge.MIN, -1, 5, 6, 131, Edge.MAX}) {
            Edge.due("overcounts(0, " + key + ")", x.overcounts(0, key), Edge.NONE);
        }
    }

    @Says(promise = 17, sentence = "if P is above 131,")
    static void overcountsOfAGreatFamily() {
        for (int number : new int[] {128, 131, 132, 137, 65521}) {
            Watched x = new Watched(number, 1, 1, 1);
            Edge.due("P of " + number + ", an empty stream", x.overcounts(0, 0), number <= 131 ? 0 : Edge.NONE);
            x.add(0, 1, 1);
            Edge.due("P of " + number, x.overcounts(0, 0), number <= 131 ? 131 * 130 : Edge.NONE);
        }
    }

    @Says(promise = 17, sentence = "n above 100000000000000,")
    static void overcountsOfAGreatStream() {
        Watched x = new Watched(5, 1, 1, 1);
        Edge.fill(x, 1, 14);
        Edge.due("just so many", x.overcounts(0, 0), OVERCOUNTS_MOST * 20);
        x.add(0, 0, 1);
        Edge.due("one above", x.overcounts(0, 0), Edge.NONE);
        Edge.due("one above, the other key", x.overcounts(0, 1), Edge.NONE);
        Edge.due("another stream", x.overcounts(1, 1), 0);
        x.clear(0);
        Edge.due("cleared", x.overcounts(0, 0), 0);
    }

    @Says(promise = 17, sentence = "or COUNTS are GONE.")
    static void overcountsOfGone() {
        // Of a family of 131 keys at most COUNTS are never GONE: 131 keys have room, also put together.
        Watched x = new Watched(131, 1, 1, 1);
        Edge.addEach(x, 0, 0, 131);
        x.join(0, 0);
        Edge.due("all keys of 131", x.overcounts(0, 130), 2L * 130 * 131 * 130);
        Watched gone = new Watched(307, 1, 1, 1);
        Edge.addEach(gone, 0, 0, 301);
        Edge.due("COUNTS are GONE", gone.overcounts(0, 0), Edge.NONE);
    }
}
