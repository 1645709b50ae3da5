/** Edges of SAVING, as keys come: promises 5, 10, 13 and 14. */
final class EdgesOfSaving {
    private EdgesOfSaving() {
    }

    private static Watched three() {
        return new Watched(131, 1, 1, 3);
    }

    @Says(promise = {5, 13}, sentence = "SAVING: at most COUNTERS counters, each with an ERROR, in the order of their numbers;")
    static void orderOfNumbers() {
        Watched x = three();
        x.add(0, 1, 9);
        x.add(0, 2, 5);
        x.add(0, 3, 7);
        Edge.dueCounters(x, 0, Edge.SAVING, 2, 5, 0, 3, 7, 0, 1, 9, 0);
        x.add(0, 2, 1000);
        Edge.dueCounters(x, 0, Edge.SAVING, 3, 7, 0, 1, 9, 0, 2, 1005, 0);
        x.add(0, 4, 1);
        Edge.dueCounters(x, 0, Edge.SAVING, 4, 8, 7, 1, 9, 0, 2, 1005, 0);
        Watched most = new Watched(131, 1, 1, 64);
        Edge.addEach(most, 0, 0, 131);
        Edge.due("no more than COUNTERS", most.state(0, Edge.STATE_OF_SAVING), 64);
        Edge.due("the last one's key", most.counter(0, Edge.SAVING, 63, 0), 130);
        Edge.due("the last one's number", most.counter(0, Edge.SAVING, 63, 1), 3);
        Edge.due("the last one's ERROR", most.counter(0, Edge.SAVING, 63, 2), 2);
        Edge.due("the first one's number", most.counter(0, Edge.SAVING, 0, 1), 2);
    }

    @Says(promise = {5, 13}, sentence = "of like numbers the one first that came to that number first.")
    static void orderOfLikeNumbers() {
        Watched x = three();
        x.add(0, 9, 1);
        x.add(0, 5, 1);
        x.add(0, 7, 1);
        Edge.dueCounters(x, 0, Edge.SAVING, 9, 1, 0, 5, 1, 0, 7, 1, 0);
        x.add(0, 7, 1);
        x.add(0, 9, 1);
        x.add(0, 5, 1);
        Edge.dueCounters(x, 0, Edge.SAVING, 7, 2, 0, 9, 2, 0, 5, 2, 0);
        x.add(0, 7, 3);
        x.add(0, 5, 3);
        x.add(0, 9, 3);
        Edge.dueCounters(x, 0, Edge.SAVING, 7, 5, 0, 5, 5, 0, 9, 5, 0);
    }

    @Says(promise = 5, sentence = "A key with a counter: one more (it is the last one of its new number).")
    static void keyWithACounter() {
        Watched x = three();
        x.add(0, 1, 1);
        x.add(0, 2, 2);
        x.add(0, 3, 3);
        x.add(0, 1, 1);
        Edge.dueCounters(x, 0, Edge.SAVING, 2, 2, 0, 1, 2, 0, 3, 3, 0);
        x.add(0, 1, 1);
        Edge.dueCounters(x, 0, Edge.SAVING, 2, 2, 0, 3, 3, 0, 1, 3, 0);
        x.add(0, 2, 1);
        Edge.dueCounters(x, 0, Edge.SAVING, 3, 3, 0, 1, 3, 0, 2, 3, 0);
        x.add(0, 2, 1);
        Edge.dueCounters(x, 0, Edge.SAVING, 3, 3, 0, 1, 3, 0, 2, 4, 0);
        x.add(0, 4, 1);
        x.add(0, 4, 2);
        // The ERROR stays as the number grows.
        Edge.dueCounters(x, 0, Edge.SAVING, 1, 3, 0, 2, 4, 0, 4, 6, 3);
    }

    @Says(promise = 5, sentence = "Without: if there are fewer than COUNTERS a new one, 1, ERROR 0 (the last one of 1);")
    static void fewerThanCounters() {
        Watched x = three();
        Edge.dueCounters(x, 0, Edge.SAVING);
        x.add(0, 9, 1);
        x.add(0, 8, 2);
        x.add(0, 5, 1);
        Edge.dueCounters(x, 0, Edge.SAVING, 9, 1, 0, 5, 1, 0, 8, 2, 0);
        Watched one = new Watched(131, 1, 1, 1);
        one.add(0, 130, 1);
        Edge.dueCounters(one, 0, Edge.SAVING, 130, 1, 0);
    }

    @Says(promise = 5, sentence = "else the first counter of all becomes this key's: its ERROR is the number that it had, it is one more (the last one of that).")
    static void fullOfCounters() {
        Watched x = three();
        x.add(0, 9, 1);
        x.add(0, 5, 1);
        x.add(0, 7, 2);
        x.add(0, 1, 1);
        // Of the two of 1, the one that came first is this key's now, behind 7 at 2.
        Edge.dueCounters(x, 0, Edge.SAVING, 5, 1, 0, 7, 2, 0, 1, 2, 1);
        x.add(0, 9, 1);
        Edge.dueCounters(x, 0, Edge.SAVING, 7, 2, 0, 1, 2, 1, 9, 2, 1);
        x.add(0, 5, 4);
        Edge.dueCounters(x, 0, Edge.SAVING, 1, 2, 1, 9, 2, 1, 5, 6, 2);
        x.add(0, 0, 1);
        // An ERROR is the number that there was, not that and its ERROR.
        Edge.dueCounters(x, 0, Edge.SAVING, 9, 2, 1, 0, 3, 2, 5, 6, 2);
        Watched one = new Watched(131, 1, 1, 1);
        one.add(0, 8, 1000);
        one.add(0, 9, 1);
        Edge.dueCounters(one, 0, Edge.SAVING, 9, 1001, 1000);
        one.add(0, 8, 1000);
        Edge.dueCounters(one, 0, Edge.SAVING, 8, 2001, 1001);
    }

    @Says(promise = {10, 14}, sentence = "LEAST: the first counter's number if there are COUNTERS of them, else 0.")
    static void least() {
        Watched x = three();
        Edge.due("no counters", x.state(0, Edge.STATE_LEAST), 0);
        x.add(0, 1, 5);
        x.add(0, 2, 4);
        Edge.due("one fewer than COUNTERS", x.state(0, Edge.STATE_LEAST), 0);
        x.add(0, 3, 9);
        Edge.due("COUNTERS of them", x.state(0, Edge.STATE_LEAST), 4);
        x.add(0, 2, 9);
        Edge.due("the first is another", x.state(0, Edge.STATE_LEAST), 5);
        x.clear(0);
        Edge.due("cleared", x.state(0, Edge.STATE_LEAST), 0);
        Watched one = new Watched(131, 1, 1, 1);
        Edge.due("COUNTERS 1, none", one.state(0, Edge.STATE_LEAST), 0);
        one.add(0, 1, 7);
        Edge.due("COUNTERS 1, one", one.state(0, Edge.STATE_LEAST), 7);
    }

    @Says(promise = 10, sentence = "ESTIMATE: its counter, or LEAST.")
    static void estimate() {
        Watched x = three();
        Edge.due("no counters", x.estimate(0, Edge.SAVING, 1, Edge.ESTIMATE), 0);
        x.add(0, 1, 5);
        x.add(0, 2, 4);
        Edge.due("its counter", x.estimate(0, Edge.SAVING, 1, Edge.ESTIMATE), 5);
        Edge.due("LEAST, not full", x.estimate(0, Edge.SAVING, 3, Edge.ESTIMATE), 0);
        x.add(0, 3, 1);
        Edge.due("LEAST, full", x.estimate(0, Edge.SAVING, 4, Edge.ESTIMATE), 1);
        x.add(0, 4, 1);
        Edge.due("a new key's", x.estimate(0, Edge.SAVING, 4, Edge.ESTIMATE), 2);
        Edge.due("LEAST of one that is gone", x.estimate(0, Edge.SAVING, 3, Edge.ESTIMATE), 2);
    }

    @Says(promise = 10, sentence = "LOW: its counter less its ERROR, or 0.")
    static void low() {
        Watched x = three();
        Edge.due("no counters", x.estimate(0, Edge.SAVING, 1, Edge.LOW), 0);
        x.add(0, 1, 5);
        x.add(0, 2, 4);
        x.add(0, 3, 3);
        Edge.due("no ERROR", x.estimate(0, Edge.SAVING, 1, Edge.LOW), 5);
        x.add(0, 4, 2);
        Edge.due("ERROR 3", x.estimate(0, Edge.SAVING, 4, Edge.LOW), 2);
        Edge.due("without a counter", x.estimate(0, Edge.SAVING, 3, Edge.LOW), 0);
        Edge.due("a key that never came", x.estimate(0, Edge.SAVING, 130, Edge.LOW), 0);
    }

    @Says(promise = 10, sentence = "HIGH the ESTIMATE.")
    static void high() {
        Watched x = three();
        Edge.due("no counters", x.estimate(0, Edge.SAVING, 1, Edge.HIGH), 0);
        x.add(0, 1, 5);
        x.add(0, 2, 4);
        Edge.due("without a counter, not full", x.estimate(0, Edge.SAVING, 3, Edge.HIGH), 0);
        x.add(0, 3, 3);
        x.add(0, 4, 2);
        Edge.due("its counter, ERROR 0", x.estimate(0, Edge.SAVING, 1, Edge.HIGH), 5);
        Edge.due("its counter, ERROR 3", x.estimate(0, Edge.SAVING, 4, Edge.HIGH), 5);
        Edge.due("without a counter", x.estimate(0, Edge.SAVING, 3, Edge.HIGH), 4);
        Edge.due("a key that never came", x.estimate(0, Edge.SAVING, 130, Edge.HIGH), 4);
    }
}
