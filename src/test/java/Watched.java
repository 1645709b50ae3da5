/** An object that a test may ask no more than the document promises answers to: 512 calls. */
final class Watched {
    static final int MOST_CALLS = 512;

    final FrequencySketches inside;
    final int prime;
    final int width;
    final int rows;
    final int counters;
    private int calls = 0;

    Watched(int prime, int width, int rows, int counters) {
        inside = new FrequencySketches(prime, width, rows, counters);
        this.prime = size(0);
        this.width = size(1);
        this.rows = size(2);
        this.counters = size(3);
    }

    private FrequencySketches asked() {
        calls++;
        if (calls > MOST_CALLS) {
            throw new IllegalStateException("the test itself is wrong: call " + calls + " of one object");
        }
        return inside;
    }

    int callsLeft() {
        return MOST_CALLS - calls;
    }

    int size(int what) {
        return asked().size(what);
    }

    boolean pair(int row, int a, int b) {
        return asked().pair(row, a, b);
    }

    int hash(int row, int key) {
        return asked().hash(row, key);
    }

    long add(int stream, int key, int times) {
        return asked().add(stream, key, times);
    }

    boolean clear(int stream) {
        return asked().clear(stream);
    }

    boolean copy(int to, int from) {
        return asked().copy(to, from);
    }

    long join(int to, int from) {
        return asked().join(to, from);
    }

    long total(int stream) {
        return asked().total(stream);
    }

    long estimate(int stream, int sketch, int key, int side) {
        return asked().estimate(stream, sketch, key, side);
    }

    long count(int stream, int key) {
        return asked().count(stream, key);
    }

    long cell(int stream, int sketch, int row, int column) {
        return asked().cell(stream, sketch, row, column);
    }

    long counter(int stream, int sketch, int i, int what) {
        return asked().counter(stream, sketch, i, what);
    }

    long state(int stream, int what) {
        return asked().state(stream, what);
    }

    int report(int stream, int sketch, int parts, boolean sure) {
        return asked().report(stream, sketch, parts, sure);
    }

    long reported(int i, int what) {
        return asked().reported(i, what);
    }

    long overcounts(int stream, int key) {
        return asked().overcounts(stream, key);
    }

    int audit(int stream) {
        return asked().audit(stream);
    }
}
