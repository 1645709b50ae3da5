/** Edges of putting together: promise 8. */
final class EdgesOfJoin {
    private EdgesOfJoin() {
    }

    private static Watched three() {
        return new Watched(131, 1, 1, 3);
    }

    /** Each pair of numbers: a key, and how often it comes. */
    private static void addAll(Watched x, int stream, int... comes) {
        for (int i = 0; i + 1 < comes.length; i += 2) {
            x.add(stream, comes[i], comes[i + 1]);
        }
    }

    @Says(promise = 8, sentence = "A stream is put together with another one, which stays")
    static void theSecondStays() {
        Watched x = Edge.busy();
        String second = Edge.picture(x, 0);
        String third = Edge.picture(x, 2);
        Edge.due("join", x.join(1, 0), 13);
        Edge.due("the second stays", Edge.picture(x, 0), second);
        Edge.due("others stay", Edge.picture(x, 2), third);
        String joined = Edge.picture(x, 1);
        x.add(0, 3, 9);
        x.clear(0);
        Edge.due("what the second does later is its own", Edge.picture(x, 1), joined);
        Edge.due("the report stays", x.reported(0, 1), 3);
    }

    @Says(promise = 8, sentence = "(with itself: it alone is there then): n.")
    static void withItself() {
        Watched x = Edge.busy();
        x.copy(3, 0);
        String second = Edge.picture(x, 1);
        Edge.due("join with itself", x.join(0, 0), 12);
        // MISRA had key 1 at 2 and key 4 at 1, TAKEN 1. SAVING had 2 at 3, ERROR 2, then 1 at 3 or behind it.
        Edge.dueCounters(x, 0, Edge.MISRA, 1, 4, 0, 4, 2, 0);
        Edge.due("TAKEN", x.state(0, Edge.STATE_TAKEN), 2);
        Edge.dueCounters(x, 0, Edge.SAVING, 1, 6, 0, 2, 6, 4);
        for (int key = 0; key < 5; key++) {
            Edge.due("count of key " + key, x.count(0, key), 2 * x.count(3, key));
        }
        for (int i = 0; i < 8; i++) {
            Edge.due("a cell", x.cell(0, i / 4, i / 2 % 2, i % 2), 2 * x.cell(3, i / 4, i / 2 % 2, i % 2));
        }
        Edge.due("others stay", Edge.picture(x, 1), second);
        x.clear(3);
        Edge.due("an empty one with itself", x.join(3, 3), 0);
        Edge.due("audit", x.audit(0), 0);
    }

    @Says(promise = 8, sentence = "NONE, changing nothing: no such ones,")
    static void noSuchStreams() {
        Watched x = Edge.busy();
        String before = Edge.picture(x);
        for (int stream : Edge.NO_STREAMS) {
            Edge.due("join(0, " + stream + ")", x.join(0, stream), Edge.NONE);
            Edge.due("join(" + stream + ", 0)", x.join(stream, 0), Edge.NONE);
            Edge.due("join(" + stream + ", " + stream + ")", x.join(stream, stream), Edge.NONE);
        }
        Edge.due("nothing has changed", Edge.picture(x), before);
    }

    @Says(promise = 8, sentence = "or n would be above 1000000000000000.")
    static void beyondTheMost() {
        Watched x = Edge.tiny();
        Edge.fill(x, 1, 15);
        Edge.due("n is the most", x.total(0), Edge.MOST);
        x.add(1, 3, 1);
        String before = Edge.picture(x);
        Edge.due("the most and 1", x.join(0, 1), Edge.NONE);
        Edge.due("1 and the most", x.join(1, 0), Edge.NONE);
        Edge.due("the most with itself", x.join(0, 0), Edge.NONE);
        Edge.due("nothing has changed", Edge.picture(x), before);
        Edge.due("the most and an empty one", x.join(0, 2), Edge.MOST);
        Edge.due("an empty one and the most", x.join(2, 0), Edge.MOST);
    }

    @Says(promise = 8, sentence = "n would be above 1000000000000000.")
    static void justTheMost() {
        Watched x = Edge.tiny();
        Edge.fill(x, 1, 14);
        x.copy(3, 0);
        x.join(0, 0);
        x.join(0, 0);
        x.join(0, 3);
        Edge.due("half of the most", x.total(0), Edge.MOST / 2);
        x.copy(1, 0);
        x.copy(2, 0);
        x.add(1, 2, 1);
        Edge.due("one above a half, and a half", x.join(1, 0), Edge.NONE);
        Edge.due("one above a half with itself", x.join(1, 1), Edge.NONE);
        Edge.due("two halves", x.join(2, 0), Edge.MOST);
        Edge.due("a half with itself", x.join(0, 0), Edge.MOST);
        Edge.due("what was refused stays", x.total(1), Edge.MOST / 2 + 1);
    }

    @Says(promise = 8, sentence = "PUTTING TOGETHER one with another (as it is then; also with itself): n, cells, COUNTS are added.")
    static void numbersAreAdded() {
        // Columns by row: key 1 is at 1, 2; key 4 at 1, 1.
        Watched x = new Watched(7, 3, 2, 2);
        x.pair(0, 1, 0);
        x.pair(1, 2, 0);
        x.add(0, 1, 5);
        x.add(1, 4, 3);
        Edge.due("n", x.join(0, 1), 8);
        // Together CAREFUL's cell is 5 and 3, where it would have been 5 in one stream.
        Edge.due("CAREFUL's shared cell", x.cell(0, Edge.CAREFUL, 0, 1), 8);
        Edge.due("PLAIN's shared cell", x.cell(0, Edge.PLAIN, 0, 1), 8);
        Edge.due("a cell of the first", x.cell(0, Edge.CAREFUL, 1, 2), 5);
        Edge.due("a cell of the second", x.cell(0, Edge.CAREFUL, 1, 1), 3);
        Edge.due("a cell of neither", x.cell(0, Edge.PLAIN, 1, 0), 0);
        Edge.due("a count of the first", x.count(0, 1), 5);
        Edge.due("a count of the second", x.count(0, 4), 3);
        x.join(0, 1);
        Edge.due("a count of both", x.count(0, 4), 6);
        Edge.due("different keys", x.state(0, Edge.STATE_KEYS), 2);
        x.join(2, 0);
        Edge.due("an empty one and another: n", x.total(2), 11);
        Edge.due("an empty one and another: a cell", x.cell(2, Edge.CAREFUL, 0, 1), 11);
        Edge.due("an empty one and another: a count", x.count(2, 4), 6);
        x.join(2, 3);
        Edge.due("and an empty one: n", x.total(2), 11);
        Edge.due("and an empty one: a cell", x.cell(2, Edge.PLAIN, 0, 1), 11);
    }

    @Says(promise = 8, sentence = "MISRA: counters of like keys are added, those of the second alone come behind, in their order; TAKEN are added;")
    static void misraIsAdded() {
        Watched x = new Watched(131, 1, 1, 5);
        addAll(x, 0, 9, 2, 4, 6);
        addAll(x, 1, 8, 1, 4, 3, 2, 5);
        x.join(0, 1);
        Edge.dueCounters(x, 0, Edge.MISRA, 9, 2, 0, 4, 9, 0, 8, 1, 0, 2, 5, 0);
        x.join(2, 0);
        Edge.dueCounters(x, 2, Edge.MISRA, 9, 2, 0, 4, 9, 0, 8, 1, 0, 2, 5, 0);
        x.join(0, 3);
        Edge.dueCounters(x, 0, Edge.MISRA, 9, 2, 0, 4, 9, 0, 8, 1, 0, 2, 5, 0);
        Watched taken = three();
        addAll(taken, 0, 1, 9, 2, 9, 3, 9, 4, 2);
        addAll(taken, 1, 3, 9, 2, 9, 1, 9, 4, 5);
        taken.join(0, 1);
        Edge.dueCounters(taken, 0, Edge.MISRA, 1, 11, 0, 2, 11, 0, 3, 11, 0);
        Edge.due("TAKEN", taken.state(0, Edge.STATE_TAKEN), 7);
        Edge.due("TAKEN of the second", taken.state(1, Edge.STATE_TAKEN), 5);
    }

    @Says(promise = 8, sentence = "if there are more than COUNTERS, the (COUNTERS + 1)-th greatest number is taken from all, and added to TAKEN;")
    static void misraHasTooMany() {
        Watched x = three();
        addAll(x, 0, 1, 9, 2, 4);
        addAll(x, 1, 3, 5, 2, 1);
        x.join(0, 1);
        // Just COUNTERS of them: nothing is taken.
        Edge.dueCounters(x, 0, Edge.MISRA, 1, 9, 0, 2, 5, 0, 3, 5, 0);
        Edge.due("TAKEN", x.state(0, Edge.STATE_TAKEN), 0);
        x.add(2, 4, 2);
        x.join(0, 2);
        Edge.dueCounters(x, 0, Edge.MISRA, 1, 7, 0, 2, 3, 0, 3, 3, 0);
        Edge.due("one too many: TAKEN", x.state(0, Edge.STATE_TAKEN), 2);
        x.clear(1);
        addAll(x, 1, 7, 8, 6, 4, 5, 6);
        x.join(0, 1);
        // 7, 3, 3, 8, 4, 6: the fourth greatest is 4.
        Edge.dueCounters(x, 0, Edge.MISRA, 1, 3, 0, 7, 4, 0, 5, 2, 0);
        Edge.due("twice COUNTERS: TAKEN", x.state(0, Edge.STATE_TAKEN), 6);
        x.clear(0);
        x.clear(1);
        addAll(x, 0, 1, 1, 2, 9, 3, 8);
        addAll(x, 1, 4, 7, 5, 6, 6, 5);
        x.join(0, 1);
        // 1, 9, 8, 7, 6, 5: the fourth greatest is 6.
        Edge.dueCounters(x, 0, Edge.MISRA, 2, 3, 0, 3, 2, 0, 4, 1, 0);
        Watched one = new Watched(131, 1, 1, 1);
        one.add(0, 1, 9);
        one.add(1, 2, 4);
        one.join(0, 1);
        Edge.dueCounters(one, 0, Edge.MISRA, 1, 5, 0);
        Edge.due("COUNTERS 1: TAKEN", one.state(0, Edge.STATE_TAKEN), 4);
    }

    @Says(promise = 8, sentence = "those that are 0 or below are gone.")
    static void misraCountersAreGone() {
        Watched x = three();
        addAll(x, 0, 1, 2, 2, 2, 3, 2);
        addAll(x, 1, 4, 2, 5, 1, 6, 2);
        x.join(0, 1);
        // Of 2, 2, 2, 2, 1, 2 the fourth greatest is 2: like numbers are counted each.
        Edge.dueCounters(x, 0, Edge.MISRA);
        Edge.due("TAKEN", x.state(0, Edge.STATE_TAKEN), 2);
        Edge.due("counters", x.state(0, Edge.STATE_OF_MISRA), 0);
        Edge.due("one that is gone has no counter", x.estimate(0, Edge.MISRA, 5, Edge.ESTIMATE), 0);
        x.add(0, 5, 3);
        Edge.dueCounters(x, 0, Edge.MISRA, 5, 3, 0);
        x.clear(0);
        x.clear(1);
        addAll(x, 0, 1, 7, 2, 3, 3, 1);
        addAll(x, 1, 4, 3, 5, 2);
        x.join(0, 1);
        // 7, 3, 1, 3, 2: the fourth greatest is 2, so 1 goes below 0.
        Edge.dueCounters(x, 0, Edge.MISRA, 1, 5, 0, 2, 1, 0, 4, 1, 0);
        Watched most = new Watched(131, 1, 1, 64);
        Edge.addEach(most, 0, 0, 64);
        Edge.addEach(most, 1, 64, 128);
        most.join(0, 1);
        Edge.due("128 of 1: counters", most.state(0, Edge.STATE_OF_MISRA), 0);
        Edge.due("128 of 1: TAKEN", most.state(0, Edge.STATE_TAKEN), 1);
    }

    @Says(promise = 8, sentence = "SAVING: each key that has a counter in one: the sum of both numbers, of both ERRORS;")
    static void savingIsAdded() {
        Watched x = three();
        addAll(x, 0, 1, 2, 2, 9, 3, 8, 4, 3);
        addAll(x, 1, 2, 3, 4, 7, 3, 6, 1, 4, 2, 2);
        // The first: 4 at 5, ERROR 2; 3 at 8; 2 at 9.
        Edge.dueCounters(x, 0, Edge.SAVING, 4, 5, 2, 3, 8, 0, 2, 9, 0);
        // The second: 1 at 7, ERROR 3, takes 2's; then 2 takes 3's at 6.
        Edge.dueCounters(x, 1, Edge.SAVING, 4, 7, 0, 1, 7, 3, 2, 8, 6);
        x.copy(2, 0);
        x.join(2, 1);
        // 4: 12, ERROR 2. 2: 17, ERROR 6. 3: 8 + 7, ERROR 7. 1: 7 + 5, ERROR 8: as great as 4's, and the lower key.
        Edge.dueCounters(x, 2, Edge.SAVING, 1, 12, 8, 3, 15, 7, 2, 17, 6);
        Edge.due("LOW of key 2", x.estimate(2, Edge.SAVING, 2, Edge.LOW), 11);
        x.copy(3, 2);
        x.join(2, 3);
        Edge.dueCounters(x, 2, Edge.SAVING, 1, 24, 16, 3, 30, 14, 2, 34, 12);
        Edge.due("audit", x.audit(2), 0);
    }

    @Says(promise = 8, sentence = "where one has none both are its LEAST there;")
    static void savingWithoutACounter() {
        Watched x = three();
        addAll(x, 0, 1, 4, 2, 5, 3, 6);
        x.add(1, 7, 9);
        x.copy(2, 0);
        x.copy(3, 1);
        x.join(0, 1);
        // The first is full, its LEAST 4; the second isn't, its LEAST 0.
        Edge.dueCounters(x, 0, Edge.SAVING, 2, 5, 0, 3, 6, 0, 7, 13, 4);
        x.join(1, 2);
        Edge.dueCounters(x, 1, Edge.SAVING, 2, 5, 0, 3, 6, 0, 7, 13, 4);
        x.clear(3);
        x.add(3, 9, 2);
        x.clear(1);
        x.add(1, 8, 1);
        x.join(1, 3);
        Edge.dueCounters(x, 1, Edge.SAVING, 8, 1, 0, 9, 2, 0);
        x.clear(3);
        addAll(x, 3, 7, 10, 8, 20, 9, 30);
        x.join(2, 3);
        // Both are full: LEAST 4 and 10.
        Edge.dueCounters(x, 2, Edge.SAVING, 3, 16, 10, 8, 24, 4, 9, 34, 4);
        Edge.due("LEAST", x.state(2, Edge.STATE_LEAST), 16);
    }

    @Says(promise = 8, sentence = "the COUNTERS greatest stay (of like ones the lower key),")
    static void savingHasTooMany() {
        Watched x = three();
        addAll(x, 0, 8, 5, 9, 5);
        addAll(x, 1, 7, 5, 2, 5);
        x.copy(2, 0);
        x.join(0, 1);
        Edge.dueCounters(x, 0, Edge.SAVING, 2, 5, 0, 7, 5, 0, 8, 5, 0);
        x.join(1, 2);
        Edge.dueCounters(x, 1, Edge.SAVING, 2, 5, 0, 7, 5, 0, 8, 5, 0);
        Edge.due("one that went has no counter", x.estimate(0, Edge.SAVING, 9, Edge.LOW), 0);
        Edge.due("its ESTIMATE is LEAST", x.estimate(0, Edge.SAVING, 9, Edge.ESTIMATE), 5);
        x.clear(0);
        x.clear(1);
        addAll(x, 0, 1, 3, 2, 4);
        addAll(x, 1, 9, 6, 3, 3);
        x.join(0, 1);
        Edge.dueCounters(x, 0, Edge.SAVING, 1, 3, 0, 2, 4, 0, 9, 6, 0);
        x.clear(0);
        x.clear(1);
        addAll(x, 0, 8, 5, 7, 6);
        addAll(x, 1, 2, 4, 6, 7);
        x.join(0, 1);
        // The lowest key has the least number, one less than the next.
        Edge.dueCounters(x, 0, Edge.SAVING, 8, 5, 0, 7, 6, 0, 6, 7, 0);
        Watched most = new Watched(131, 1, 1, 64);
        Edge.addEach(most, 0, 64, 128);
        Edge.addEach(most, 1, 0, 64);
        most.join(0, 1);
        Edge.due("128 of 2: counters", most.state(0, Edge.STATE_OF_SAVING), 64);
        Edge.due("the first key", most.counter(0, Edge.SAVING, 0, 0), 0);
        Edge.due("the last key", most.counter(0, Edge.SAVING, 63, 0), 63);
        Edge.due("the last number", most.counter(0, Edge.SAVING, 63, 1), 2);
        Edge.due("the last ERROR", most.counter(0, Edge.SAVING, 63, 2), 1);
    }

    @Says(promise = 8, sentence = "of like numbers in the order of their keys.")
    static void savingInOrderOfKeys() {
        Watched x = three();
        addAll(x, 0, 9, 2, 5, 2);
        addAll(x, 1, 7, 2);
        x.copy(2, 0);
        x.copy(3, 0);
        x.join(0, 1);
        Edge.dueCounters(x, 0, Edge.SAVING, 5, 2, 0, 7, 2, 0, 9, 2, 0);
        x.clear(1);
        x.join(2, 1);
        Edge.dueCounters(x, 2, Edge.SAVING, 5, 2, 0, 9, 2, 0);
        x.join(3, 3);
        Edge.dueCounters(x, 3, Edge.SAVING, 5, 4, 0, 9, 4, 0);
        x.add(0, 5, 1);
        x.add(0, 7, 1);
        x.add(0, 9, 1);
        x.add(0, 5, 1);
        x.add(0, 1, 1);
        // What comes later goes by when it came again.
        Edge.dueCounters(x, 0, Edge.SAVING, 9, 3, 0, 5, 4, 0, 1, 4, 3);
    }
}
