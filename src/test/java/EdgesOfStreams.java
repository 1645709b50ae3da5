/** Edges of streams: what comes, is cleared, copied and counted: promises 5, 6, 7, 9, 11 and 14. */
final class EdgesOfStreams {
    private EdgesOfStreams() {
    }

    /** Stream 0 has 300 different keys, 0 .. 299. */
    private static Watched threeHundred() {
        Watched x = new Watched(307, 4, 2, 2);
        Edge.addEach(x, 0, 0, 300);
        return x;
    }

    private static void dueGone(String what, Watched x, int stream, boolean gone) {
        Edge.due(what + ": count", x.count(stream, 6) == Edge.NONE, gone);
        Edge.due(what + ": different keys", x.state(stream, Edge.STATE_KEYS) == Edge.NONE, gone);
        Edge.due(what + ": audit", x.audit(stream), gone ? Edge.NONE : 0);
    }

    @Says(promise = {1, 5, 6, 7, 8, 9, 10, 11, 12, 13, 14, 15, 17, 18}, sentence = "STREAMS 0 .. 3, empty at first; each has n (how many keys came), and:")
    static void whatIsAStream() {
        Watched x = Edge.tiny();
        String empty = "n 0 state 0 0 0 0 0 misra -1:-1:-1 -1:-1:-1 saving -1:-1:-1 -1:-1:-1"
            + " plain 0 0 0 0 careful 0 0 0 0 counts 0 0 0 0 0";
        for (int stream = 0; stream < 4; stream++) {
            Edge.due("stream " + stream + " at first", Edge.picture(x, stream), empty);
            Edge.due("audit at first", x.audit(stream), 0);
            Edge.due("overcounts at first", x.overcounts(stream, 0), 0);
            Edge.due("report at first", x.report(stream, Edge.ALL_FOUR, 100000, false), 0);
        }
        for (int stream = 0; stream < 4; stream++) {
            Edge.due("add to stream " + stream, x.add(stream, 1, stream + 1), stream + 1);
        }
        for (int stream = 0; stream < 4; stream++) {
            Edge.due("n of stream " + stream, x.total(stream), stream + 1);
        }
        for (int stream : new int[] {-1, 4}) {
            Edge.due("add", x.add(stream, 1, 1), Edge.NONE);
            Edge.due("clear", x.clear(stream), false);
            Edge.due("copy", x.copy(stream, 0), false);
            Edge.due("join", x.join(0, stream), Edge.NONE);
            Edge.due("total", x.total(stream), Edge.NONE);
            Edge.due("estimate", x.estimate(stream, 0, 1, 0), Edge.NONE);
            Edge.due("count", x.count(stream, 1), Edge.NONE);
            Edge.due("cell", x.cell(stream, 0, 0, 0), Edge.NONE);
            Edge.due("counter", x.counter(stream, 2, 0, 0), Edge.NONE);
            Edge.due("state", x.state(stream, 0), Edge.NONE);
            Edge.due("report", x.report(stream, 0, 1, false), Edge.NONE);
            Edge.due("overcounts", x.overcounts(stream, 1), Edge.NONE);
            Edge.due("audit", x.audit(stream), Edge.NONE);
        }
    }

    @Says(promise = 5, sentence = "The key comes so many times (1 .. 1000), one by one: n.")
    static void manyTimesAreOneByOne() {
        Watched x = Edge.tiny();
        int[][] comes = {{1, 3}, {4, 7}, {2, 2}, {0, 9}, {4, 1}, {3, 20}, {1, 16}, {2, 5}, {0, 30}, {4, 40}};
        long n = 0;
        for (int[] c : comes) {
            n += c[1];
            Edge.due("n", x.add(0, c[0], c[1]), n);
            for (int i = 0; i < c[1]; i++) {
                x.add(1, c[0], 1);
            }
            Edge.due("n", x.total(1), n);
        }
        Edge.due("at once, as one by one", Edge.picture(x, 0), Edge.picture(x, 1));
        Edge.due("once", x.add(2, 3, 1), 1);
        Edge.due("a thousand times", x.add(2, 3, 1000), 1001);
        Edge.due("its count", x.count(2, 3), 1001);
    }

    @Says(promise = 5, sentence = "NONE, changing nothing: no such stream,")
    static void addToNoStream() {
        Watched x = Edge.busy();
        String before = Edge.picture(x);
        for (int stream : Edge.NO_STREAMS) {
            Edge.due("add(" + stream + ", 1, 1)", x.add(stream, 1, 1), Edge.NONE);
        }
        Edge.due("nothing has changed", Edge.picture(x), before);
    }

    @Says(promise = 5, sentence = "NONE, changing nothing: no such stream, key,")
    static void addNoKey() {
        Watched x = Edge.busy();
        String before = Edge.picture(x);
        for (int key : new int[] {Edge.MIN, -2, -1, 5, 6, 65536, Edge.MAX}) {
            for (int stream = 0; stream < 4; stream++) {
                Edge.due("add(" + stream + ", " + key + ", 1)", x.add(stream, key, 1), Edge.NONE);
            }
        }
        Edge.due("nothing has changed", Edge.picture(x), before);
    }

    @Says(promise = 5, sentence = "other times,")
    static void addOtherTimes() {
        Watched x = Edge.busy();
        String before = Edge.picture(x);
        for (int times : new int[] {Edge.MIN, -1000, -1, 0, 1001, 1002, 65537, Edge.MAX}) {
            for (int stream = 0; stream < 4; stream++) {
                Edge.due("add(" + stream + ", 1, " + times + ")", x.add(stream, 1, times), Edge.NONE);
            }
        }
        Edge.due("nothing has changed", Edge.picture(x), before);
    }

    @Says(promise = 5, sentence = "or n would be above 1000000000000000.")
    static void addBeyondTheMost() {
        Watched x = Edge.tiny();
        Edge.fill(x, 1, 15);
        Edge.due("n is the most", x.total(0), Edge.MOST);
        String before = Edge.picture(x);
        for (int times : new int[] {1, 2, 999, 1000}) {
            Edge.due("add(0, 1, " + times + ")", x.add(0, 1, times), Edge.NONE);
            Edge.due("add(0, 4, " + times + ")", x.add(0, 4, times), Edge.NONE);
        }
        Edge.due("nothing has changed", Edge.picture(x), before);
        Edge.due("another stream takes it", x.add(1, 1, 1000), 1000);
    }

    @Says(promise = 5, sentence = "n would be above 1000000000000000.")
    static void addJustUpToTheMost() {
        Watched x = Edge.tiny();
        // 999, a thousandfold and 999, and so on, a thousandfold at last: 10^15 - 1000.
        for (int i = 0; i < 12; i++) {
            if (i % 3 == 0) {
                x.add(0, 1, 999);
            }
            Edge.tenfold(x);
        }
        Edge.due("n", x.total(0), Edge.MOST - 1000);
        x.copy(1, 0);
        x.copy(2, 0);
        Edge.due("just the most", x.add(0, 2, 1000), Edge.MOST);
        Edge.due("one too many", x.add(0, 2, 1), Edge.NONE);
        Edge.due("one fewer than the most", x.add(1, 2, 999), Edge.MOST - 1);
        Edge.due("two are too many", x.add(1, 2, 2), Edge.NONE);
        Edge.due("one is the most", x.add(1, 2, 1), Edge.MOST);
        x.add(2, 2, 1);
        Edge.due("a thousand are one too many", x.add(2, 2, 1000), Edge.NONE);
        Edge.due("its count", x.count(2, 2), 1);
        Edge.due("the other's count", x.count(1, 2), 1000);
    }

    @Says(promise = 6, sentence = "A stream is empty again: true.")
    static void clear() {
        Watched x = Edge.busy();
        String empty = Edge.picture(x, 3);
        String second = Edge.picture(x, 1);
        Edge.due("clear", x.clear(0), true);
        Edge.due("stream 0", Edge.picture(x, 0), empty);
        Edge.due("another stream stays", Edge.picture(x, 1), second);
        Edge.due("clear again", x.clear(0), true);
        Edge.due("clear an empty one", x.clear(3), true);
        Edge.due("stream 3", Edge.picture(x, 3), empty);
        Edge.due("the report stays", x.reported(0, 1), 3);
        x.add(0, 2, 1);
        Edge.dueCounters(x, 0, Edge.MISRA, 2, 1, 0);
        Edge.dueCounters(x, 0, Edge.SAVING, 2, 1, 0);
        Edge.due("a key of before has no counter", x.estimate(0, Edge.SAVING, 1, Edge.HIGH), 0);
        Edge.due("a key of before has no counter", x.estimate(0, Edge.MISRA, 1, Edge.HIGH), 0);
        x.add(0, 1, 1);
        Edge.dueCounters(x, 0, Edge.SAVING, 2, 1, 0, 1, 1, 0);
    }

    @Says(promise = 6, sentence = "False for others.")
    static void clearNoStream() {
        Watched x = Edge.busy();
        String before = Edge.picture(x);
        for (int stream : Edge.NO_STREAMS) {
            Edge.due("clear(" + stream + ")", x.clear(stream), false);
        }
        Edge.due("nothing has changed", Edge.picture(x), before);
    }

    @Says(promise = 7, sentence = "A stream becomes what another one is")
    static void copy() {
        Watched x = Edge.busy();
        String first = Edge.picture(x, 0);
        String empty = Edge.picture(x, 3);
        Edge.due("copy to an empty one", x.copy(3, 0), true);
        Edge.due("it is the same", Edge.picture(x, 3), first);
        Edge.due("the other one stays", Edge.picture(x, 0), first);
        Edge.due("a counter of MISRA", x.estimate(3, Edge.MISRA, 1, Edge.ESTIMATE), 2);
        Edge.due("a counter of SAVING", x.estimate(3, Edge.SAVING, 1, Edge.LOW), 3);
        x.add(3, 2, 5);
        x.join(3, 1);
        Edge.due("the other one is not changed with it", Edge.picture(x, 0), first);
        Edge.due("copy to a fuller one", x.copy(3, 1), true);
        // Stream 1 has one counter, and what stream 3 had is not there any more.
        Edge.due("it is the same", Edge.picture(x, 3), Edge.picture(x, 1));
        Edge.due("a key of before has no counter", x.estimate(3, Edge.SAVING, 1, Edge.ESTIMATE), 0);
        x.clear(1);
        Edge.due("copy of an empty one", x.copy(3, 1), true);
        Edge.due("it is empty", Edge.picture(x, 3), empty);
        Edge.due("a report stays", x.reported(0, 1), 3);
    }

    @Says(promise = 7, sentence = "(itself, too): true.")
    static void copyOfItself() {
        Watched x = Edge.busy();
        String before = Edge.picture(x);
        for (int stream = 0; stream < 4; stream++) {
            Edge.due("copy(" + stream + ", " + stream + ")", x.copy(stream, stream), true);
        }
        Edge.due("nothing has changed", Edge.picture(x), before);
    }

    @Says(promise = 7, sentence = "False for others.")
    static void copyOfNoStream() {
        Watched x = Edge.busy();
        String before = Edge.picture(x);
        for (int stream : Edge.NO_STREAMS) {
            Edge.due("copy(0, " + stream + ")", x.copy(0, stream), false);
            Edge.due("copy(" + stream + ", 0)", x.copy(stream, 0), false);
            Edge.due("copy(" + stream + ", " + stream + ")", x.copy(stream, stream), false);
        }
        Edge.due("nothing has changed", Edge.picture(x), before);
    }

    @Says(promise = 9, sentence = "n.")
    static void total() {
        Watched x = Edge.tiny();
        Edge.due("at first", x.total(3), 0);
        x.add(3, 1, 1000);
        x.add(3, 2, 1);
        Edge.due("by adding", x.total(3), 1001);
        x.copy(2, 3);
        Edge.due("by copying", x.total(2), 1001);
        x.join(2, 3);
        Edge.due("by putting together", x.total(2), 2002);
        x.clear(3);
        Edge.due("cleared", x.total(3), 0);
        Edge.fill(x, 1, 15);
        Edge.due("the most", x.total(0), Edge.MOST);
    }

    @Says(promise = 9, sentence = "NONE for others.")
    static void totalOfNoStream() {
        Watched x = Edge.busy();
        for (int stream : Edge.NO_STREAMS) {
            Edge.due("total(" + stream + ")", x.total(stream), Edge.NONE);
        }
    }

    @Says(promise = 11, sentence = "A key's count.")
    static void count() {
        Watched x = Edge.tiny();
        Edge.due("an empty stream", x.count(0, 0), 0);
        x.add(0, 0, 1);
        x.add(0, 4, 1000);
        x.add(0, 0, 2);
        Edge.due("the lowest key", x.count(0, 0), 3);
        Edge.due("the highest key", x.count(0, 4), 1000);
        Edge.due("a key that never came", x.count(0, 2), 0);
        Edge.due("another stream", x.count(1, 0), 0);
        x.clear(0);
        Edge.fill(x, 3, 15);
        Edge.due("the greatest count", x.count(0, 3), Edge.MOST);
    }

    @Says(promise = 11, sentence = "NONE for others,")
    static void noSuchCount() {
        Watched x = Edge.busy();
        for (int stream : Edge.NO_STREAMS) {
            Edge.due("count(" + stream + ", 1)", x.count(stream, 1), Edge.NONE);
        }
        for (int key : new int[] {Edge.MIN, -1, 5, 6, 300, Edge.MAX}) {
            Edge.due("count(0, " + key + ")", x.count(0, key), Edge.NONE);
            Edge.due("count(3, " + key + ")", x.count(3, key), Edge.NONE);
        }
    }

    @Says(promise = 11, sentence = "and if COUNTS are GONE.")
    static void countOfGone() {
        Watched x = threeHundred();
        x.add(0, 300, 1);
        Edge.due("a key that had a count", x.count(0, 0), Edge.NONE);
        Edge.due("the 301st", x.count(0, 300), Edge.NONE);
        Edge.due("a key that never came", x.count(0, 306), Edge.NONE);
        Edge.due("another stream's", x.count(1, 0), 0);
        Edge.due("the rest of the stream stays", x.total(0), 301);
    }

    @Says(promise = {5, 11, 14}, sentence = "COUNTS of at most 300 keys:")
    static void threeHundredKeysStay() {
        Watched x = threeHundred();
        dueGone("300 keys", x, 0, false);
        Edge.due("different keys", x.state(0, Edge.STATE_KEYS), 300);
        Edge.due("the first key's count", x.count(0, 0), 1);
        Edge.due("the last key's count", x.count(0, 299), 1);
        for (int key : new int[] {0, 150, 299}) {
            x.add(0, key, 1000);
            dueGone("a key that is there comes again", x, 0, false);
            Edge.due("its count", x.count(0, key), 1001);
        }
        Edge.due("different keys", x.state(0, Edge.STATE_KEYS), 300);
        Edge.due("a key that never came", x.count(0, 300), 0);
    }

    @Says(promise = {5, 11, 14, 18}, sentence = "the 301st different one")
    static void threeHundredFirstKey() {
        for (int last : new int[] {300, 306}) {
            Watched x = threeHundred();
            Edge.due("n goes on", x.add(0, last, 1), 301);
            dueGone("the 301st key", x, 0, true);
            dueGone("another stream", x, 1, false);
        }
        Watched x = new Watched(307, 4, 2, 2);
        Edge.addEach(x, 0, 1, 301);
        dueGone("keys 1 .. 300", x, 0, false);
        x.add(0, 0, 1000);
        dueGone("the 301st key is the lowest", x, 0, true);
    }

    @Says(promise = {8, 11, 14}, sentence = "the 301st different one (also by putting together):")
    static void threeHundredFirstKeyByPuttingTogether() {
        Watched x = threeHundred();
        x.add(1, 0, 1);
        x.add(1, 299, 1);
        Edge.due("join with keys that are there", x.join(0, 1), 302);
        dueGone("300 still", x, 0, false);
        Edge.due("a count", x.count(0, 299), 2);
        x.copy(2, 0);
        Edge.due("join with itself", x.join(2, 2), 604);
        dueGone("300 with themselves", x, 2, false);
        Edge.due("different keys", x.state(2, Edge.STATE_KEYS), 300);
        x.add(3, 306, 1);
        Edge.due("join with a new key", x.join(2, 3), 605);
        dueGone("301 by the second", x, 2, true);
        dueGone("the second stays", x, 3, false);
        Edge.due("a new key joins 300", x.join(3, 0), 303);
        dueGone("301 by the first", x, 3, true);
        dueGone("the second stays", x, 0, false);
        Watched halves = new Watched(307, 4, 2, 2);
        Edge.addEach(halves, 0, 0, 150);
        Edge.addEach(halves, 1, 150, 300);
        halves.copy(2, 1);
        halves.join(0, 1);
        dueGone("150 and 150", halves, 0, false);
        Edge.due("different keys", halves.state(0, Edge.STATE_KEYS), 300);
        halves.add(2, 300, 1);
        halves.join(0, 2);
        dueGone("one more by putting together", halves, 0, true);
    }

    @Says(promise = {5, 8, 11, 14}, sentence = "they are GONE")
    static void goneStaysGone() {
        Watched x = threeHundred();
        x.add(0, 300, 1);
        x.add(0, 0, 1);
        dueGone("a key comes again", x, 0, true);
        x.join(0, 1);
        dueGone("put together with an empty one", x, 0, true);
        x.join(0, 0);
        dueGone("put together with itself", x, 0, true);
        x.add(1, 6, 1);
        x.join(1, 0);
        dueGone("another one put together with it", x, 1, true);
        x.join(2, 0);
        dueGone("an empty one put together with it", x, 2, true);
        Edge.due("n", x.total(2), 604);
    }

    @Says(promise = {6, 11, 14}, sentence = "they are GONE until the stream is cleared,")
    static void goneUntilCleared() {
        Watched x = threeHundred();
        x.add(0, 300, 1);
        x.clear(1);
        dueGone("another one is cleared", x, 0, true);
        x.clear(0);
        dueGone("cleared", x, 0, false);
        Edge.due("different keys", x.state(0, Edge.STATE_KEYS), 0);
        Edge.due("a count", x.count(0, 6), 0);
        x.add(0, 6, 4);
        Edge.due("it counts again", x.count(0, 6), 4);
        Edge.due("different keys", x.state(0, Edge.STATE_KEYS), 1);
    }

    @Says(promise = {7, 11, 14}, sentence = "or another one is copied.")
    static void goneUntilAnotherIsCopied() {
        Watched x = threeHundred();
        x.copy(1, 0);
        x.add(0, 300, 1);
        x.copy(0, 0);
        dueGone("itself is copied", x, 0, true);
        x.copy(2, 0);
        dueGone("a copy of it", x, 2, true);
        x.copy(0, 2);
        dueGone("one that is GONE, too, is copied", x, 0, true);
        x.copy(0, 1);
        dueGone("one that has 300", x, 0, false);
        Edge.due("different keys", x.state(0, Edge.STATE_KEYS), 300);
        Edge.due("a count", x.count(0, 299), 1);
        x.copy(2, 3);
        dueGone("an empty one", x, 2, false);
        Edge.due("different keys", x.state(2, Edge.STATE_KEYS), 0);
    }
}
