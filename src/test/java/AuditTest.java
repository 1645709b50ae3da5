import java.lang.reflect.Array;
import java.lang.reflect.Field;

/**
 * No run of calls brings audit to another answer than 0 or NONE, as what it looks at always holds.
 * So the inside of an object is spoilt here, by the names of its fields, to see that audit does look.
 */
public final class AuditTest {
    private static int wrong = 0;

    private static Object inside(Object of, String... path) throws ReflectiveOperationException {
        Object at = of;
        for (String name : path) {
            if (Character.isDigit(name.charAt(0))) {
                at = Array.get(at, Integer.parseInt(name));
            } else {
                at = field(at, name).get(at);
            }
        }
        return at;
    }

    private static Field field(Object of, String name) throws ReflectiveOperationException {
        Field f = of.getClass().getDeclaredField(name);
        f.setAccessible(true);
        return f;
    }

    private static FrequencySketches busy() {
        FrequencySketches x = new FrequencySketches(31, 5, 3, 4);
        for (int k = 0; k < 9; k++) {
            x.add(0, k, k + 1);
        }
        return x;
    }

    /** An array's numbers all become this one. */
    private static void spoil(FrequencySketches x, long number, String... path) throws ReflectiveOperationException {
        java.util.Arrays.fill((long[]) inside(x, path), number);
    }

    private static void spoilField(FrequencySketches x, long number, String name, String... path)
        throws ReflectiveOperationException {
        Object of = inside(x, path);
        field(of, name).setLong(of, number);
    }

    private static void due(String what, FrequencySketches x, int want) {
        int got = x.audit(0);
        if (got != want) {
            wrong++;
            System.out.println(what + ": audit answered " + got + ", due is " + want);
        }
    }

    public static void main(String[] args) throws ReflectiveOperationException {
        FrequencySketches x = busy();
        due("nothing is spoilt", x, 0);
        spoil(x, 8, "streams", "0", "plain", "cells");
        due("PLAIN's HIGH too low", x, 1);
        spoil(x, 9, "streams", "0", "plain", "cells");
        due("CAREFUL's above PLAIN's", x, 5);
        spoil(x, 8, "streams", "0", "careful", "cells");
        due("CAREFUL's HIGH too low", x, 2);
        x = busy();
        spoil(x, 99, "streams", "0", "misra", "held", "numbers");
        due("MISRA's LOW too high", x, 3);
        x = busy();
        spoilField(x, 0, "taken", "streams", "0", "misra");
        due("MISRA's HIGH too low", x, 3);
        x = busy();
        spoil(x, 0, "streams", "0", "saving", "held", "numbers");
        due("SAVING's HIGH too low", x, 4);
        x = busy();
        spoil(x, 0, "streams", "0", "saving", "held", "errors");
        due("SAVING's LOW too high", x, 4);
        x = busy();
        spoilField(x, 9, "taken", "streams", "0", "misra");
        due("TAKEN as great as it may be", x, 0);
        spoilField(x, 10, "taken", "streams", "0", "misra");
        due("TAKEN too great", x, 6);
        x = busy();
        spoilField(x, 46, "n", "streams", "0");
        due("n is another", x, 7);
        x.clear(0);
        due("cleared", x, 0);
        x.add(0, 0, 3);
        spoil(x, 4, "streams", "0", "careful", "cells");
        due("one key, CAREFUL's above PLAIN's", x, 5);
        spoil(x, 2, "streams", "0", "careful", "cells");
        due("one key, CAREFUL's HIGH too low", x, 2);
        System.out.println(wrong == 0 ? "audit sees what is spoilt" : wrong + " answers are not as due");
        if (wrong != 0) {
            System.exit(1);
        }
    }
}
