/** Edges of MISRA, as keys come: promises 5, 10, 13 and 14. */
final class EdgesOfMisra {
    private EdgesOfMisra() {
    }

    private static Watched three() {
        return new Watched(131, 1, 1, 3);
    }

    @Says(promise = {5, 13}, sentence = "MISRA: at most COUNTERS counters, in the order in which they were made, and TAKEN.")
    static void orderOfMaking() {
        Watched x = three();
        x.add(0, 9, 2);
        x.add(0, 5, 7);
        x.add(0, 7, 1);
        // Neither by key nor by number.
        Edge.dueCounters(x, 0, Edge.MISRA, 9, 2, 0, 5, 7, 0, 7, 1, 0);
        x.add(0, 1, 1);
        Edge.dueCounters(x, 0, Edge.MISRA, 9, 1, 0, 5, 6, 0);
        x.add(0, 2, 1);
        x.add(0, 3, 1);
        // 9 and 2 are gone; what is made again comes last.
        Edge.dueCounters(x, 0, Edge.MISRA, 5, 5, 0);
        x.add(0, 2, 4);
        x.add(0, 9, 9);
        Edge.dueCounters(x, 0, Edge.MISRA, 5, 5, 0, 2, 4, 0, 9, 9, 0);
        Edge.due("TAKEN", x.state(0, Edge.STATE_TAKEN), 2);
        Watched most = new Watched(131, 1, 1, 64);
        Edge.addEach(most, 0, 0, 131);
        // 64 keys get counters, the 65th takes them all; so again.
        Edge.due("counters", most.state(0, Edge.STATE_OF_MISRA), 1);
        Edge.due("TAKEN", most.state(0, Edge.STATE_TAKEN), 2);
    }

    @Says(promise = 5, sentence = "A key with a counter: one more.")
    static void keyWithACounter() {
        Watched x = three();
        x.add(0, 9, 2);
        x.add(0, 5, 1);
        x.add(0, 7, 1);
        x.add(0, 5, 1000);
        x.add(0, 7, 1);
        x.add(0, 9, 1);
        Edge.dueCounters(x, 0, Edge.MISRA, 9, 3, 0, 5, 1001, 0, 7, 2, 0);
        Edge.due("TAKEN, though it is full", x.state(0, Edge.STATE_TAKEN), 0);
    }

    @Says(promise = 5, sentence = "Without: if there are fewer than COUNTERS a new one, 1;")
    static void fewerThanCounters() {
        Watched x = three();
        Edge.dueCounters(x, 0, Edge.MISRA);
        x.add(0, 130, 1);
        Edge.dueCounters(x, 0, Edge.MISRA, 130, 1, 0);
        x.add(0, 0, 1);
        x.add(0, 50, 1);
        Edge.dueCounters(x, 0, Edge.MISRA, 130, 1, 0, 0, 1, 0, 50, 1, 0);
        Edge.due("TAKEN", x.state(0, Edge.STATE_TAKEN), 0);
        Watched one = new Watched(131, 1, 1, 1);
        one.add(0, 8, 1);
        Edge.dueCounters(one, 0, Edge.MISRA, 8, 1, 0);
    }

    @Says(promise = 5, sentence = "else all are one less, those that are 0 then are gone, TAKEN is one more.")
    static void fullOfCounters() {
        Watched x = three();
        x.add(0, 1, 2);
        x.add(0, 2, 1);
        x.add(0, 3, 2);
        x.add(0, 4, 1);
        Edge.dueCounters(x, 0, Edge.MISRA, 1, 1, 0, 3, 1, 0);
        Edge.due("TAKEN", x.state(0, Edge.STATE_TAKEN), 1);
        x.add(0, 4, 1);
        Edge.dueCounters(x, 0, Edge.MISRA, 1, 1, 0, 3, 1, 0, 4, 1, 0);
        x.add(0, 5, 1);
        Edge.dueCounters(x, 0, Edge.MISRA);
        Edge.due("all gone: TAKEN", x.state(0, Edge.STATE_TAKEN), 2);
        x.add(0, 1, 2);
        x.add(0, 2, 1);
        x.add(0, 3, 2);
        x.add(0, 4, 3);
        // Once all are one less; then there is room for it.
        Edge.dueCounters(x, 0, Edge.MISRA, 1, 1, 0, 3, 1, 0, 4, 2, 0);
        Edge.due("three times: TAKEN", x.state(0, Edge.STATE_TAKEN), 3);
        Watched one = new Watched(131, 1, 1, 1);
        one.add(0, 8, 1000);
        one.add(0, 9, 999);
        Edge.dueCounters(one, 0, Edge.MISRA, 8, 1, 0);
        one.add(0, 9, 1);
        Edge.dueCounters(one, 0, Edge.MISRA);
        Edge.due("a thousand times: TAKEN", one.state(0, Edge.STATE_TAKEN), 1000);
        one.add(0, 9, 1);
        Edge.dueCounters(one, 0, Edge.MISRA, 9, 1, 0);
    }

    @Says(promise = 10, sentence = "ESTIMATE: its counter, or 0.")
    static void estimate() {
        Watched x = three();
        Edge.due("no counters at all", x.estimate(0, Edge.MISRA, 1, Edge.ESTIMATE), 0);
        x.add(0, 1, 5);
        x.add(0, 2, 2);
        x.add(0, 3, 1);
        x.add(0, 4, 1);
        Edge.due("the first counter", x.estimate(0, Edge.MISRA, 1, Edge.ESTIMATE), 4);
        Edge.due("the last counter", x.estimate(0, Edge.MISRA, 2, Edge.ESTIMATE), 1);
        Edge.due("one that is gone", x.estimate(0, Edge.MISRA, 3, Edge.ESTIMATE), 0);
        Edge.due("one that never was", x.estimate(0, Edge.MISRA, 4, Edge.ESTIMATE), 0);
        Edge.due("a key that never came", x.estimate(0, Edge.MISRA, 130, Edge.ESTIMATE), 0);
    }

    @Says(promise = 10, sentence = "LOW that, HIGH it and TAKEN.")
    static void sides() {
        Watched x = three();
        x.add(0, 1, 5);
        x.add(0, 2, 3);
        x.add(0, 3, 2);
        Edge.due("LOW, nothing TAKEN", x.estimate(0, Edge.MISRA, 1, Edge.LOW), 5);
        Edge.due("HIGH, nothing TAKEN", x.estimate(0, Edge.MISRA, 1, Edge.HIGH), 5);
        Edge.due("HIGH without a counter, nothing TAKEN", x.estimate(0, Edge.MISRA, 4, Edge.HIGH), 0);
        x.add(0, 4, 2);
        Edge.due("LOW", x.estimate(0, Edge.MISRA, 1, Edge.LOW), 3);
        Edge.due("HIGH", x.estimate(0, Edge.MISRA, 1, Edge.HIGH), 5);
        Edge.due("LOW without a counter", x.estimate(0, Edge.MISRA, 3, Edge.LOW), 0);
        Edge.due("HIGH without a counter", x.estimate(0, Edge.MISRA, 3, Edge.HIGH), 2);
        Edge.due("HIGH of a key that never came", x.estimate(0, Edge.MISRA, 130, Edge.HIGH), 2);
    }
}
