/** Edges of PLAIN and CAREFUL: promises 5, 10 and 12. */
final class EdgesOfCells {
    private EdgesOfCells() {
    }

    /** Columns by row: key 1 is at 1, 2; key 4 at 1, 1; key 2 at 2, 1; key 0 at 0, 0. */
    private static Watched crossed() {
        Watched x = new Watched(7, 3, 2, 2);
        x.pair(0, 1, 0);
        x.pair(1, 2, 0);
        return x;
    }

    private static void dueCells(Watched x, int stream, int sketch, long... want) {
        StringBuilder got = new StringBuilder();
        StringBuilder told = new StringBuilder();
        for (int i = 0; i < want.length; i++) {
            got.append(" ").append(x.cell(stream, sketch, i / x.width, i % x.width));
            told.append(" ").append(want[i]);
        }
        Edge.due("the cells of sketch " + sketch, got.toString(), told.toString());
    }

    @Says(promise = {5, 12}, sentence = "PLAIN and CAREFUL: ROWS by WIDTH cells.")
    static void howManyCells() {
        for (int[] size : new int[][] {{1, 1}, {1, 8}, {3, 2}, {256, 8}}) {
            Watched x = new Watched(31, size[0], size[1], 1);
            for (int sketch = Edge.PLAIN; sketch <= Edge.CAREFUL; sketch++) {
                Edge.due("the first cell", x.cell(0, sketch, 0, 0), 0);
                Edge.due("the last cell", x.cell(3, sketch, size[1] - 1, size[0] - 1), 0);
                Edge.due("a cell right of the last", x.cell(0, sketch, 0, size[0]), Edge.NONE);
                Edge.due("a cell below the last", x.cell(0, sketch, size[1], 0), Edge.NONE);
            }
        }
    }

    @Says(promise = 5, sentence = "A key comes: of PLAIN its cell in each row is one more.")
    static void plainCells() {
        Watched x = crossed();
        x.add(0, 1, 1);
        dueCells(x, 0, Edge.PLAIN, 0, 1, 0, 0, 0, 1);
        x.add(0, 4, 1);
        dueCells(x, 0, Edge.PLAIN, 0, 2, 0, 0, 1, 1);
        x.add(0, 2, 1000);
        dueCells(x, 0, Edge.PLAIN, 0, 2, 1000, 0, 1001, 1);
        Watched one = new Watched(2, 1, 8, 1);
        one.add(0, 0, 3);
        one.add(0, 1, 4);
        dueCells(one, 0, Edge.PLAIN, 7, 7, 7, 7, 7, 7, 7, 7);
    }

    @Says(promise = 5, sentence = "CAREFUL: the least of its cells, one more, is m; each of its cells that is below m becomes m.")
    static void carefulCells() {
        Watched x = crossed();
        x.add(0, 1, 2);
        dueCells(x, 0, Edge.CAREFUL, 0, 2, 0, 0, 0, 2);
        x.add(0, 4, 1);
        dueCells(x, 0, Edge.CAREFUL, 0, 2, 0, 0, 1, 2);
        x.add(0, 4, 1);
        // Now one cell has come up to m, and the other stood there already.
        dueCells(x, 0, Edge.CAREFUL, 0, 2, 0, 0, 2, 2);
        x.add(0, 4, 1);
        dueCells(x, 0, Edge.CAREFUL, 0, 3, 0, 0, 3, 2);
        x.add(0, 1, 1);
        dueCells(x, 0, Edge.CAREFUL, 0, 3, 0, 0, 3, 3);
        x.add(0, 2, 1000);
        dueCells(x, 0, Edge.CAREFUL, 0, 3, 1000, 0, 1000, 3);
        Watched one = new Watched(2, 1, 8, 1);
        one.add(0, 0, 3);
        one.add(0, 1, 4);
        dueCells(one, 0, Edge.CAREFUL, 7, 7, 7, 7, 7, 7, 7, 7);
    }

    @Says(promise = 10, sentence = "The ESTIMATE: the least of its cells.")
    static void estimateOfCells() {
        Watched x = crossed();
        x.add(0, 1, 5);
        x.add(0, 4, 2);
        x.add(0, 2, 1);
        // PLAIN's cells: 0 7 1, 0 3 5. CAREFUL's: 0 5 1, 0 2 5.
        Edge.due("the least is the first row's", x.estimate(0, Edge.PLAIN, 2, Edge.ESTIMATE), 1);
        Edge.due("the least is the last row's", x.estimate(0, Edge.PLAIN, 1, Edge.ESTIMATE), 5);
        Edge.due("CAREFUL's least is less", x.estimate(0, Edge.CAREFUL, 4, Edge.ESTIMATE), 2);
        Edge.due("than PLAIN's", x.estimate(0, Edge.PLAIN, 4, Edge.ESTIMATE), 3);
        Edge.due("its first cell is empty", x.estimate(0, Edge.PLAIN, 6, Edge.ESTIMATE), 0);
        Edge.due("its last cell is empty", x.estimate(0, Edge.PLAIN, 5, Edge.ESTIMATE), 0);
        Edge.due("both are empty", x.estimate(0, Edge.CAREFUL, 0, Edge.ESTIMATE), 0);
        Edge.due("an empty stream", x.estimate(1, Edge.PLAIN, 1, Edge.ESTIMATE), 0);
        Watched rows = new Watched(7, 2, 8, 1);
        for (int row = 0; row < 8; row++) {
            // Keys 0 and 2 share a cell in each row but the last.
            rows.pair(row, row < 7 ? 1 : 4, 0);
        }
        rows.add(0, 0, 9);
        Edge.due("its own cells", rows.estimate(0, Edge.PLAIN, 0, Edge.ESTIMATE), 9);
        Edge.due("the last of eight rows", rows.estimate(0, Edge.PLAIN, 2, Edge.ESTIMATE), 0);
    }

    @Says(promise = 10, sentence = "LOW 0, HIGH the ESTIMATE.")
    static void sidesOfCells() {
        Watched x = crossed();
        x.add(0, 1, 5);
        x.add(0, 4, 2);
        for (int sketch = Edge.PLAIN; sketch <= Edge.CAREFUL; sketch++) {
            for (int key = 0; key < 7; key++) {
                Edge.due("LOW of key " + key, x.estimate(0, sketch, key, Edge.LOW), 0);
                Edge.due("HIGH of key " + key, x.estimate(0, sketch, key, Edge.HIGH),
                    x.estimate(0, sketch, key, Edge.ESTIMATE));
            }
            Edge.due("HIGH of key 1", x.estimate(0, sketch, 1, Edge.HIGH), 5);
        }
    }

    @Says(promise = 12, sentence = "Of PLAIN 0, CAREFUL 1: what stands in a cell.")
    static void cells() {
        Watched x = crossed();
        x.add(3, 1, 5);
        x.add(3, 4, 2);
        Edge.due("PLAIN's", x.cell(3, 0, 0, 1), 7);
        Edge.due("CAREFUL's", x.cell(3, 1, 0, 1), 5);
        Edge.due("PLAIN's last one", x.cell(3, 0, 1, 2), 5);
        Edge.due("another stream's", x.cell(2, 0, 0, 1), 0);
        Edge.fill(x, 6, 15);
        Edge.due("the greatest number", x.cell(0, 0, 0, 0), Edge.MOST);
        Edge.due("the greatest number", x.cell(0, 1, 0, 0), Edge.MOST);
    }

    @Says(promise = 12, sentence = "NONE for others.")
    static void noSuchCell() {
        Watched x = crossed();
        Edge.addEach(x, 0, 0, 7);
        for (int stream : Edge.NO_STREAMS) {
            Edge.due("stream " + stream, x.cell(stream, 0, 0, 0), Edge.NONE);
        }
        for (int sketch : new int[] {Edge.MIN, -1, 2, 3, 4, 5, Edge.MAX}) {
            Edge.due("sketch " + sketch, x.cell(0, sketch, 0, 0), Edge.NONE);
        }
        for (int sketch = Edge.PLAIN; sketch <= Edge.CAREFUL; sketch++) {
            for (int row : new int[] {Edge.MIN, -1, 2, 8, Edge.MAX}) {
                Edge.due("row " + row, x.cell(0, sketch, row, 0), Edge.NONE);
            }
            for (int column : new int[] {Edge.MIN, -1, 3, 4, 256, Edge.MAX}) {
                Edge.due("column " + column, x.cell(0, sketch, 0, column), Edge.NONE);
                Edge.due("column " + column, x.cell(0, sketch, 1, column), Edge.NONE);
            }
        }
    }
}
