/** Edges of what is asked of sketches and counters, and of an object's last call: promises 10, 13, 14 and all. */
final class EdgesOfAnswers {
    private EdgesOfAnswers() {
    }

    @Says(promise = 10, sentence = "Of PLAIN 0, CAREFUL 1, MISRA 2, SAVING 3 a key's ESTIMATE (side 0), LOW (1), HIGH (2).")
    static void eachSketchAndSide() {
        // Columns by row: key 1 is at 1, 2; key 4 at 1, 1; key 2 at 2, 1.
        Watched x = new Watched(7, 3, 2, 2);
        x.pair(0, 1, 0);
        x.pair(1, 2, 0);
        x.add(3, 1, 5);
        x.add(3, 4, 2);
        x.add(3, 2, 1);
        // PLAIN 0 7 1, 0 3 5; CAREFUL 0 5 1, 0 2 5; MISRA 1 at 4, 4 at 1, TAKEN 1; SAVING 2 at 3, ERROR 2, 1 at 5.
        long[][] one = {{5, 0, 5}, {5, 0, 5}, {4, 4, 5}, {5, 5, 5}};
        long[][] four = {{3, 0, 3}, {2, 0, 2}, {1, 1, 2}, {3, 0, 3}};
        long[][] two = {{1, 0, 1}, {1, 0, 1}, {0, 0, 1}, {3, 1, 3}};
        for (int sketch = 0; sketch < 4; sketch++) {
            for (int side = 0; side < 3; side++) {
                String what = " sketch " + sketch + ", side " + side;
                Edge.due("key 1," + what, x.estimate(3, sketch, 1, side), one[sketch][side]);
                Edge.due("key 4," + what, x.estimate(3, sketch, 4, side), four[sketch][side]);
                Edge.due("key 2," + what, x.estimate(3, sketch, 2, side), two[sketch][side]);
                Edge.due("an empty stream," + what, x.estimate(0, sketch, 1, side), 0);
            }
        }
        Edge.fill(x, 6, 15);
        Edge.due("the most", x.estimate(0, Edge.CAREFUL, 6, Edge.ESTIMATE), Edge.MOST);
        Edge.due("the most", x.estimate(0, Edge.MISRA, 6, Edge.LOW), Edge.MOST);
        Edge.due("the most", x.estimate(0, Edge.SAVING, 6, Edge.HIGH), Edge.MOST);
    }

    @Says(promise = 10, sentence = "Sketch 4: 1 the greatest LOW,")
    static void greatestLow() {
        Watched x = new Watched(131, 1, 1, 2);
        x.add(0, 1, 5);
        x.add(0, 2, 4);
        x.add(0, 3, 2);
        // MISRA: 1 at 3, 2 at 2. SAVING: 1 at 5; 3 at 6, ERROR 4.
        Edge.due("SAVING's is greater", x.estimate(0, Edge.ALL_FOUR, 1, Edge.LOW), 5);
        Edge.due("MISRA's is greater", x.estimate(0, Edge.ALL_FOUR, 2, Edge.LOW), 2);
        Edge.due("SAVING's alone", x.estimate(0, Edge.ALL_FOUR, 3, Edge.LOW), 2);
        Edge.due("none is sure", x.estimate(0, Edge.ALL_FOUR, 4, Edge.LOW), 0);
        Edge.due("an empty stream", x.estimate(1, Edge.ALL_FOUR, 1, Edge.LOW), 0);
    }

    @Says(promise = 10, sentence = "2 the least HIGH of all four")
    static void leastHigh() {
        // Columns by row: key 1 is at 1, 2; key 4 at 1, 1; key 2 at 2, 1; key 6 at 0, 2; key 0 at 0, 0.
        Watched x = new Watched(7, 3, 2, 1);
        x.pair(0, 1, 0);
        x.pair(1, 2, 0);
        x.add(0, 1, 5);
        x.add(0, 4, 2);
        x.add(0, 2, 1);
        // MISRA: 1 at 2, TAKEN 3; SAVING: 2 at 8; so PLAIN tells 3 of key 4, CAREFUL 2.
        Edge.due("CAREFUL's is the least", x.estimate(0, Edge.ALL_FOUR, 4, Edge.HIGH), 2);
        Edge.due("cells that are empty", x.estimate(0, Edge.ALL_FOUR, 0, Edge.HIGH), 0);
        Watched narrow = new Watched(131, 1, 1, 2);
        narrow.add(0, 1, 5);
        narrow.add(0, 2, 4);
        narrow.add(0, 3, 2);
        // Cells: 11. MISRA: 1 at 3, 2 at 2, TAKEN 2. SAVING: 1 at 5; 3 at 6, ERROR 4.
        Edge.due("MISRA's is the least, with a counter", narrow.estimate(0, Edge.ALL_FOUR, 2, Edge.HIGH), 4);
        Edge.due("MISRA's is the least, without", narrow.estimate(0, Edge.ALL_FOUR, 4, Edge.HIGH), 2);
        // In no run PLAIN's HIGH is below CAREFUL's, or SAVING's below MISRA's; they may be as low.
        Edge.due("SAVING's is as low as MISRA's", narrow.estimate(0, Edge.ALL_FOUR, 1, Edge.HIGH), 5);
        Edge.due("an empty stream", narrow.estimate(2, Edge.ALL_FOUR, 1, Edge.HIGH), 0);
    }

    @Says(promise = 10, sentence = "(0: half of both together, cut).")
    static void halfOfBoth() {
        Watched x = new Watched(131, 1, 1, 1);
        x.add(0, 1, 2);
        x.add(0, 2, 1);
        // n 3. MISRA: 1 at 1, TAKEN 1. SAVING: 2 at 3, ERROR 2.
        Edge.due("LOW of key 1", x.estimate(0, Edge.ALL_FOUR, 1, Edge.LOW), 1);
        Edge.due("HIGH of key 1", x.estimate(0, Edge.ALL_FOUR, 1, Edge.HIGH), 2);
        Edge.due("1 and 2: half, cut", x.estimate(0, Edge.ALL_FOUR, 1, Edge.ESTIMATE), 1);
        Edge.due("0 and 1: half, cut", x.estimate(0, Edge.ALL_FOUR, 3, Edge.ESTIMATE), 0);
        Edge.due("1 and 1", x.estimate(0, Edge.ALL_FOUR, 2, Edge.ESTIMATE), 1);
        Edge.due("an empty stream", x.estimate(1, Edge.ALL_FOUR, 1, Edge.ESTIMATE), 0);
        x.add(0, 3, 1);
        x.add(0, 3, 3);
        // MISRA: 3 took 1 away and is at 3, TAKEN 2. SAVING: 3 at 7, ERROR 3.
        Edge.due("4 and 5", x.estimate(0, Edge.ALL_FOUR, 3, Edge.ESTIMATE), 4);
        x.clear(0);
        Edge.fill(x, 6, 15);
        Edge.due("the most", x.estimate(0, Edge.ALL_FOUR, 6, Edge.ESTIMATE), Edge.MOST);
    }

    @Says(promise = 10, sentence = "NONE for others.")
    static void noSuchEstimate() {
        Watched x = Edge.busy();
        for (int sketch = 0; sketch <= 4; sketch++) {
            for (int stream : Edge.NO_STREAMS) {
                Edge.due("stream " + stream, x.estimate(stream, sketch, 1, 0), Edge.NONE);
            }
            for (int key : new int[] {Edge.MIN, -1, 5, 6, Edge.MAX}) {
                Edge.due("key " + key, x.estimate(0, sketch, key, 0), Edge.NONE);
                Edge.due("key " + key, x.estimate(0, sketch, key, 2), Edge.NONE);
            }
            for (int side : new int[] {Edge.MIN, -1, 3, 4, Edge.MAX}) {
                Edge.due("side " + side, x.estimate(0, sketch, 1, side), Edge.NONE);
            }
        }
        for (int sketch : new int[] {Edge.MIN, -1, 5, 6, Edge.MAX}) {
            for (int side = 0; side < 3; side++) {
                Edge.due("sketch " + sketch, x.estimate(0, sketch, 1, side), Edge.NONE);
            }
        }
    }

    @Says(promise = 13, sentence = "Of MISRA 2, SAVING 3 counter i, in the order told: 0 its key, 1 its number, 2 its ERROR (of MISRA 0).")
    static void counter() {
        Watched x = new Watched(131, 1, 1, 2);
        x.add(2, 8, 3);
        x.add(2, 6, 1);
        x.add(2, 7, 1);
        x.add(2, 9, 1);
        // MISRA: 8 at 2, 9 at 1. SAVING: 7 at 2, ERROR 1, became 9 at 3, ERROR 2, behind 8 at 3.
        long[] misra = {8, 2, 0, 9, 1, 0};
        long[] saving = {8, 3, 0, 9, 3, 2};
        for (int i = 0; i < 6; i++) {
            Edge.due("MISRA's counter " + i / 3 + ", " + i % 3, x.counter(2, 2, i / 3, i % 3), misra[i]);
            Edge.due("SAVING's counter " + i / 3 + ", " + i % 3, x.counter(2, 3, i / 3, i % 3), saving[i]);
        }
        Edge.fill(x, 130, 15);
        Edge.due("the greatest number of MISRA", x.counter(0, 2, 0, 1), Edge.MOST);
        Edge.due("the greatest number of SAVING", x.counter(0, 3, 0, 1), Edge.MOST);
    }

    @Says(promise = 13, sentence = "NONE for others.")
    static void noSuchCounter() {
        Watched x = new Watched(131, 1, 1, 3);
        x.add(0, 8, 3);
        x.add(0, 6, 1);
        x.add(1, 1, 1);
        x.add(1, 2, 1);
        x.add(1, 3, 1);
        for (int what = 0; what < 3; what++) {
            for (int stream : Edge.NO_STREAMS) {
                Edge.due("stream " + stream, x.counter(stream, 2, 0, what), Edge.NONE);
                Edge.due("stream " + stream, x.counter(stream, 3, 0, what), Edge.NONE);
            }
            for (int sketch : new int[] {Edge.MIN, -1, 0, 1, 4, 5, Edge.MAX}) {
                Edge.due("sketch " + sketch, x.counter(0, sketch, 0, what), Edge.NONE);
            }
            for (int i : new int[] {Edge.MIN, -1, 2, 3, 64, Edge.MAX}) {
                Edge.due("MISRA's counter " + i, x.counter(0, 2, i, what), Edge.NONE);
                Edge.due("SAVING's counter " + i, x.counter(0, 3, i, what), Edge.NONE);
            }
            Edge.due("behind the last of all that may be", x.counter(1, 2, 3, what), Edge.NONE);
            Edge.due("behind the last of all that may be", x.counter(1, 3, 3, what), Edge.NONE);
            Edge.due("the first of an empty stream", x.counter(2, 2, 0, what), Edge.NONE);
            Edge.due("the first of an empty stream", x.counter(2, 3, 0, what), Edge.NONE);
        }
        for (int what : new int[] {Edge.MIN, -1, 3, 4, Edge.MAX}) {
            Edge.due("what " + what, x.counter(0, 2, 0, what), Edge.NONE);
            Edge.due("what " + what, x.counter(0, 3, 0, what), Edge.NONE);
        }
        x.add(1, 4, 1);
        Edge.due("a counter of MISRA that is gone", x.counter(1, 2, 0, 0), Edge.NONE);
    }

    @Says(promise = 14, sentence = "0 counters of MISRA, 1 TAKEN, 2 counters of SAVING, 3 LEAST, 4 different keys in COUNTS")
    static void state() {
        Watched x = new Watched(131, 1, 1, 2);
        long[][] want = {{0, 0, 0, 0, 0}, {1, 0, 1, 0, 1}, {2, 0, 2, 2, 2}, {1, 2, 2, 3, 3}};
        for (int step = 0; step < 4; step++) {
            for (int what = 0; what < 5; what++) {
                Edge.due("step " + step + ", state " + what, x.state(1, what), want[step][what]);
            }
            if (step < 3) {
                x.add(1, step, step == 0 ? 3 : 2);
            }
        }
        Edge.fill(x, 5, 15);
        Edge.due("the greatest LEAST needs both counters", x.state(0, 3), 0);
        x.copy(2, 0);
        x.join(0, 1);
        Edge.due("n would be too great: nothing TAKEN", x.state(0, 1), 0);
        Watched one = new Watched(131, 1, 1, 1);
        Edge.fill(one, 5, 15);
        Edge.due("the greatest LEAST", one.state(0, 3), Edge.MOST);
        one.clear(0);
        Edge.fill(one, 5, 14);
        one.copy(1, 0);
        one.clear(0);
        Edge.fill(one, 6, 14);
        one.join(0, 1);
        Edge.due("a great TAKEN", one.state(0, 1), Edge.MOST / 10);
        Edge.due("no counter of MISRA", one.state(0, 0), 0);
    }

    @Says(promise = 14, sentence = "(NONE if GONE).")
    static void keysOfGone() {
        Watched x = new Watched(307, 1, 1, 2);
        Edge.addEach(x, 0, 0, 300);
        Edge.due("300 different keys", x.state(0, 4), 300);
        x.add(0, 300, 1);
        Edge.due("301 different keys", x.state(0, 4), Edge.NONE);
        Edge.due("counters of MISRA", x.state(0, 0) >= 0, true);
        Edge.due("TAKEN", x.state(0, 1), 100);
        Edge.due("counters of SAVING", x.state(0, 2), 2);
        Edge.due("LEAST", x.state(0, 3), 150);
        Edge.due("another stream", x.state(1, 4), 0);
    }

    @Says(promise = 14, sentence = "NONE for others.")
    static void noSuchState() {
        Watched x = Edge.busy();
        for (int what = 0; what < 5; what++) {
            for (int stream : Edge.NO_STREAMS) {
                Edge.due("state(" + stream + ", " + what + ")", x.state(stream, what), Edge.NONE);
            }
        }
        for (int what : new int[] {Edge.MIN, -1, 5, 6, Edge.MAX}) {
            Edge.due("state(0, " + what + ")", x.state(0, what), Edge.NONE);
            Edge.due("state(3, " + what + ")", x.state(3, what), Edge.NONE);
        }
    }

    @Says(promise = {4, 5, 8, 9, 10, 11, 12, 13, 14, 15, 16, 17, 18}, sentence = "The constants: `NONE = -1`: None.")
    static void none() {
        Edge.due("NONE", FrequencySketches.NONE, -1);
        Watched x = Edge.tiny();
        Edge.due("hash", x.hash(2, 0), FrequencySketches.NONE);
        Edge.due("total", x.total(4), FrequencySketches.NONE);
        Edge.due("report", x.report(4, 0, 1, true), FrequencySketches.NONE);
    }

    /** What each method answers when it is an object's 512th call; 507 calls and the four of Watched come before. */
    private static long lastAnswer(int method) {
        Watched x = new Watched(131, 2, 1, 2);
        x.add(1, 7, 3);
        x.report(1, Edge.SAVING, 10, true);
        for (int i = 0; x.callsLeft() > 1; i++) {
            x.add(0, i % 131, 1 + i % 2);
        }
        switch (method) {
            case 0: return x.size(0);
            case 1: return x.pair(0, 1, 1) ? 1 : 0;
            case 2: return x.hash(0, 3);
            case 3: return x.add(1, 2, 1000);
            case 4: return x.clear(1) ? 1 : 0;
            case 5: return x.copy(2, 1) ? 1 : 0;
            case 6: return x.join(1, 1);
            case 7: return x.total(1);
            case 8: return x.estimate(1, 4, 7, 0);
            case 9: return x.count(0, 130);
            case 10: return x.cell(1, 0, 0, x.inside.hash(0, 7));
            case 11: return x.counter(1, 3, 0, 1);
            case 12: return x.state(0, 4);
            case 13: return x.report(1, 2, 1000, true);
            case 14: return x.reported(0, 0);
            case 15: return x.overcounts(1, 7);
            default: return x.audit(0);
        }
    }

    @Says(promise = {1, 2, 3, 4, 5, 6, 7, 8, 9, 10, 11, 12, 13, 14, 15, 16, 17, 18}, sentence = "An object is used for at most 512 calls after it has been made; what later calls answer is free.")
    static void lastCall() {
        // Key 130 comes at 130, 261 and 392: twice once, once twice.
        long[] want = {131, 0, (14 * 3 + 5) % 131 % 2, 1003, 1, 1, 6, 3, 3, 4, 3, 3, 131, 1, 7, 0, 0};
        for (int method = 0; method < want.length; method++) {
            Edge.due("method " + method + " as the 512th call", lastAnswer(method), want[method]);
        }
        Watched great = new Watched(65521, 256, 8, 64);
        long n = 0;
        for (int i = 0; great.callsLeft() > 3; i++) {
            n += 1000;
            Edge.due("add", great.add(3, 65520 - i, 1000), n);
        }
        Edge.due("n", great.total(3), n);
        Edge.due("a hash", great.hash(0, 0), 5);
        Edge.due("the 512th call", great.state(3, Edge.STATE_KEYS), Edge.NONE);
        Watched doubled = Edge.tiny();
        doubled.add(0, 1, 1);
        for (int i = 1; doubled.callsLeft() > 1; i++) {
            Edge.due("join", doubled.join(0, 0), i < 50 ? 1L << i : Edge.NONE);
        }
        Edge.due("the 512th call", doubled.total(0), 1L << 49);
    }
}
