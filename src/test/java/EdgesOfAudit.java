import java.lang.reflect.Array;
import java.lang.reflect.Field;

/**
 * Edges of audit: promise 18. No run of calls brings audit to another answer than 0 or NONE, as what
 * it looks at always holds. So the inside of an object is spoilt here, by the names of its fields, to
 * see that audit does look. An object that is held otherwise inside is passed over: that is free.
 */
final class EdgesOfAudit {
    private static final String[] PLAIN_CELLS = {"streams", "0", "plain", "cells"};
    private static final String[] CAREFUL_CELLS = {"streams", "0", "careful", "cells"};
    private static final String[] MISRA_NUMBERS = {"streams", "0", "misra", "held", "numbers"};
    private static final String[] SAVING_NUMBERS = {"streams", "0", "saving", "held", "numbers"};
    private static final String[] SAVING_ERRORS = {"streams", "0", "saving", "held", "errors"};
    private static final String[] COUNTS_NUMBERS = {"streams", "0", "counts", "numbers"};

    private EdgesOfAudit() {
    }

    /** Keys 0 .. 8 came once to nine times: n is 45, MISRA's TAKEN above 0, SAVING has ERRORS. */
    private static Watched nine() {
        Watched x = new Watched(31, 5, 3, 4);
        for (int key = 0; key < 9; key++) {
            x.add(0, key, key + 1);
        }
        return x;
    }

    /** The field at the end of the path; null if there is none. */
    private static Object inside(Watched x, String... path) {
        Object at = x.inside;
        try {
            for (String name : path) {
                at = Character.isDigit(name.charAt(0)) ? Array.get(at, Integer.parseInt(name)) : field(at, name).get(at);
            }
            return at;
        } catch (ReflectiveOperationException e) {
            System.out.println("passed over, as the object is held otherwise inside: " + String.join(".", path));
            return null;
        }
    }

    private static Field field(Object of, String name) throws ReflectiveOperationException {
        Field f = of.getClass().getDeclaredField(name);
        f.setAccessible(true);
        return f;
    }

    /** All numbers there become this one; false if they can't be reached. */
    private static boolean spoil(Watched x, long number, String... path) {
        if (!(inside(x, path) instanceof long[] numbers)) {
            return false;
        }
        java.util.Arrays.fill(numbers, number);
        return true;
    }

    /** A field of the object at the end of the path becomes this number; false if it can't be reached. */
    private static boolean spoilField(Watched x, long number, String name, String... path) {
        Object of = inside(x, path);
        if (of == null) {
            return false;
        }
        try {
            field(of, name).setLong(of, number);
            return true;
        } catch (ReflectiveOperationException e) {
            System.out.println("passed over, as the object is held otherwise inside: " + name);
            return false;
        }
    }

    private static boolean spoilTaken(Watched x, long number) {
        return spoilField(x, number, "taken", "streams", "0", "misra");
    }

    private static boolean spoilN(Watched x, long number) {
        return spoilField(x, number, "n", "streams", "0");
    }

    private static void due(String what, boolean spoilt, Watched x, int want) {
        if (spoilt) {
            Edge.due(what, x.audit(0), want);
        }
    }

    @Says(promise = 18, sentence = "1 LOW and HIGH of PLAIN,")
    static void plain() {
        Watched x = nine();
        due("HIGH of the greatest count is just it", spoil(x, 9, PLAIN_CELLS) && spoil(x, 9, CAREFUL_CELLS), x, 0);
        due("HIGH of the greatest count too low", spoil(x, 8, PLAIN_CELLS), x, 1);
    }

    @Says(promise = 18, sentence = "2 of CAREFUL,")
    static void careful() {
        Watched x = nine();
        due("HIGH of the greatest count is just it", spoil(x, 9, PLAIN_CELLS) && spoil(x, 9, CAREFUL_CELLS), x, 0);
        due("HIGH of the greatest count too low", spoil(x, 8, CAREFUL_CELLS), x, 2);
    }

    @Says(promise = 18, sentence = "3 of MISRA,")
    static void misra() {
        Watched x = nine();
        due("LOW too high", spoil(x, 10, MISRA_NUMBERS), x, 3);
        x = nine();
        due("HIGH too low", spoilTaken(x, 0), x, 3);
        x = new Watched(31, 5, 3, 4);
        x.add(0, 3, 7);
        due("LOW and HIGH are just it", spoil(x, 7, MISRA_NUMBERS), x, 0);
        due("LOW one too high", spoil(x, 8, MISRA_NUMBERS), x, 3);
        due("HIGH one too low", spoil(x, 6, MISRA_NUMBERS), x, 3);
        due("HIGH is just it by TAKEN", spoilTaken(x, 1), x, 0);
    }

    @Says(promise = 18, sentence = "4 of SAVING;")
    static void saving() {
        Watched x = nine();
        due("HIGH too low", spoil(x, 0, SAVING_NUMBERS), x, 4);
        x = nine();
        due("LOW too high", spoil(x, 0, SAVING_ERRORS), x, 4);
        x = new Watched(31, 5, 3, 4);
        x.add(0, 3, 7);
        due("LOW and HIGH are just it", spoil(x, 7, SAVING_NUMBERS), x, 0);
        due("HIGH one too low", spoil(x, 6, SAVING_NUMBERS), x, 4);
        due("LOW one too high", spoil(x, 8, SAVING_NUMBERS), x, 4);
        due("LOW is just it by the ERROR", spoil(x, 1, SAVING_ERRORS), x, 0);
    }

    @Says(promise = 18, sentence = "5 CAREFUL's ESTIMATE is not above PLAIN's;")
    static void carefulAbovePlain() {
        Watched x = nine();
        due("just as PLAIN's", spoil(x, 20, PLAIN_CELLS) && spoil(x, 20, CAREFUL_CELLS), x, 0);
        due("one above PLAIN's", spoil(x, 21, CAREFUL_CELLS), x, 5);
        due("one below PLAIN's", spoil(x, 19, CAREFUL_CELLS), x, 0);
    }

    @Says(promise = 18, sentence = "6 (COUNTERS + 1) * TAKEN is not above n;")
    static void takenTooMuch() {
        Watched x = nine();
        due("5 * 9 is just 45", spoilTaken(x, 9), x, 0);
        due("5 * 10 is above 45", spoilTaken(x, 10), x, 6);
        x = nine();
        due("5 * 9 is above 44", spoilTaken(x, 9) && spoilN(x, 44), x, 6);
        x = new Watched(31, 5, 3, 64);
        Edge.fill(x, 1, 15);
        due("65 * TAKEN of the most", spoilTaken(x, Edge.MOST / 65), x, 0);
        due("one more", spoilTaken(x, Edge.MOST / 65 + 1), x, 6);
    }

    @Says(promise = 18, sentence = "7 numbers of COUNTS together are n.")
    static void countsAreNotN() {
        Watched x = nine();
        due("n is one more", spoilN(x, 46), x, 7);
        due("n is right again", spoilN(x, 45), x, 0);
        x = new Watched(31, 5, 3, 4);
        x.add(0, 3, 7);
        due("n is one fewer", spoilN(x, 6), x, 7);
        x.clear(0);
        due("n of no COUNTS", spoilN(x, 1), x, 7);
        due("n 0 of no COUNTS", spoilN(x, 0), x, 0);
    }

    @Says(promise = 18, sentence = "The first of these that doesn't hold of a stream")
    static void theFirst() {
        Watched x = nine();
        due("7", spoilN(x, 400), x, 7);
        due("6 and 7", spoilTaken(x, 100), x, 6);
        due("5, 6 and 7", spoil(x, 99, CAREFUL_CELLS) && spoil(x, 98, PLAIN_CELLS), x, 5);
        due("4 to 7", spoil(x, 0, SAVING_NUMBERS), x, 4);
        due("3 to 7", spoil(x, 99, MISRA_NUMBERS), x, 3);
        due("2 to 7 but 5", spoil(x, 0, CAREFUL_CELLS), x, 2);
        due("1 to 7 but 5", spoil(x, 0, PLAIN_CELLS), x, 1);
        Edge.due("another stream holds", x.audit(1), 0);
        x.copy(1, 0);
        Edge.due("a copy of it doesn't", x.audit(1), x.audit(0));
        x.clear(0);
        Edge.due("an empty stream holds", x.audit(0), 0);
    }

    @Says(promise = 18, sentence = "for some key in COUNTS, or of all")
    static void forSomeKeyInCounts() {
        Watched x = new Watched(7, 256, 1, 4);
        x.pair(0, 1, 0);
        x.add(0, 0, 3);
        x.add(0, 6, 3);
        Edge.due("nothing is spoilt", x.audit(0), 0);
        if (inside(x, CAREFUL_CELLS) instanceof long[] cells) {
            cells[4] = 9;
            Edge.due("a key that isn't in COUNTS", x.audit(0), 0);
            cells[6] = 4;
            Edge.due("the last key in COUNTS", x.audit(0), 5);
            cells[6] = 2;
            Edge.due("the last key in COUNTS", x.audit(0), 2);
            cells[6] = 3;
            cells[0] = 2;
            Edge.due("the first key in COUNTS", x.audit(0), 2);
            cells[0] = 4;
            Edge.due("the first key in COUNTS", x.audit(0), 5);
            cells[0] = 3;
            Edge.due("all keys in COUNTS hold", x.audit(0), 0);
        }
        if (inside(x, COUNTS_NUMBERS) instanceof long[] numbers) {
            numbers[0]++;
            Edge.due("PLAIN's HIGH is below the count", x.audit(0), 1);
        }
    }

    @Says(promise = 18, sentence = "(0 if all do;")
    static void allDo() {
        Watched x = new Watched(31, 5, 3, 4);
        Edge.due("an empty stream", x.audit(0), 0);
        for (int i = 0; i < 60; i++) {
            x.add(i % 3, i * i % 31, 1 + i % 5);
            Edge.due("as keys come", x.audit(i % 3), 0);
        }
        for (int i = 0; i < 20; i++) {
            x.join(i % 3, i * 5 % 4);
            Edge.due("put together", x.audit(i % 3), 0);
            x.add(i % 3, i, 1000);
            Edge.due("and more keys come", x.audit(i % 3), 0);
        }
        Watched many = new Watched(307, 5, 3, 64);
        Edge.addEach(many, 0, 0, 300);
        Edge.due("300 keys", many.audit(0), 0);
        Watched most = new Watched(31, 5, 3, 1);
        Edge.fill(most, 1, 15);
        Edge.due("the most", most.audit(0), 0);
    }

    @Says(promise = 18, sentence = "NONE for others,")
    static void auditOfNoStream() {
        Watched x = nine();
        for (int stream : Edge.NO_STREAMS) {
            Edge.due("audit(" + stream + ")", x.audit(stream), Edge.NONE);
        }
    }

    @Says(promise = 18, sentence = "or if COUNTS are GONE):")
    static void auditOfGone() {
        Watched x = new Watched(307, 5, 3, 4);
        Edge.addEach(x, 0, 0, 300);
        Edge.due("300 keys", x.audit(0), 0);
        x.add(0, 300, 1);
        Edge.due("301 keys", x.audit(0), Edge.NONE);
        Edge.due("another stream", x.audit(1), 0);
        x.clear(0);
        Edge.due("cleared", x.audit(0), 0);
    }
}
