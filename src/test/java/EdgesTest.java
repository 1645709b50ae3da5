import java.io.IOException;
import java.lang.reflect.InvocationTargetException;
import java.lang.reflect.Method;
import java.nio.file.Files;
import java.nio.file.Path;
import java.util.ArrayList;
import java.util.Arrays;
import java.util.Comparator;
import java.util.List;

/**
 * Each sentence of the document that names an edge has a test of its own, which says the sentence and
 * the promises' numbers by Says. Here they are run; and the sentences are held against the document:
 * each one stands there, and together they leave out no word of the promises and of the terms.
 */
public final class EdgesTest {
    private static final Path DOCUMENT = Path.of("../shared/DOC.md");
    private static final int PROMISES = 18;
    private static final List<Class<?>> GROUPS = List.of(EdgesOfFamily.class, EdgesOfCells.class, EdgesOfMisra.class,
        EdgesOfSaving.class, EdgesOfStreams.class, EdgesOfJoin.class, EdgesOfAnswers.class, EdgesOfReport.class,
        EdgesOfAudit.class);

    private EdgesTest() {
    }

    static List<Method> tests() {
        List<Method> tests = new ArrayList<>();
        for (Class<?> group : GROUPS) {
            for (Method m : group.getDeclaredMethods()) {
                if (m.isAnnotationPresent(Says.class)) {
                    tests.add(m);
                }
            }
        }
        tests.sort(Comparator.comparing(EdgesTest::nameOf));
        return tests;
    }

    static String nameOf(Method test) {
        return test.getDeclaringClass().getSimpleName() + "." + test.getName();
    }

    /** What a test finds wrong; what the class throws counts, too. */
    static List<String> faultsOf(Method test) throws IllegalAccessException {
        Edge.takeFaults();
        List<String> faults = new ArrayList<>();
        try {
            test.setAccessible(true);
            test.invoke(null);
        } catch (InvocationTargetException e) {
            faults.add("threw " + e.getCause());
        }
        faults.addAll(Edge.takeFaults());
        return faults;
    }

    /** Whether the test of this name fails; one that isn't there does not. */
    public static boolean fails(String name) throws IllegalAccessException {
        for (Method test : tests()) {
            if (nameOf(test).equals(name)) {
                return !faultsOf(test).isEmpty();
            }
        }
        return false;
    }

    /** The words under a heading, up to the next one of its kind. */
    private static String section(String document, String heading) {
        int from = document.indexOf("\n## " + heading);
        int start = document.indexOf("\n", from + 1);
        int end = document.indexOf("\n## ", start);
        return from < 0 ? "" : document.substring(start, end < 0 ? document.length() : end).replaceAll("```\\w*", "").replaceAll("\\s+", " ");
    }

    /** Blots a sentence out of a text wherever it stands; false if it stands nowhere in the text as it was. */
    private static boolean blot(StringBuilder text, String whole, String sentence) {
        boolean found = false;
        for (int at = whole.indexOf(sentence); at >= 0; at = whole.indexOf(sentence, at + 1)) {
            found = true;
            for (int i = at; i < at + sentence.length(); i++) {
                text.setCharAt(i, ' ');
            }
        }
        return found;
    }

    private static List<String> faultsOfSentences(String document) {
        List<String> faults = new ArrayList<>();
        String terms = section(document, "What it is") + section(document, "Terms");
        StringBuilder termsLeft = new StringBuilder(terms);
        for (int promise = 1; promise <= PROMISES; promise++) {
            String text = section(document, "Promise " + promise + ":").replaceAll("^ `[^`]*`:", "");
            StringBuilder left = new StringBuilder(text);
            for (Method test : tests()) {
                Says says = test.getAnnotation(Says.class);
                int number = promise;
                if (Arrays.stream(says.promise()).anyMatch(p -> p == number)) {
                    boolean inPromise = blot(left, text, says.sentence());
                    boolean inTerms = !inPromise && blot(termsLeft, terms, says.sentence());
                    if (!inPromise && !inTerms) {
                        faults.add("promise " + promise + " has no such sentence: " + says.sentence());
                    }
                }
            }
            if (text.isBlank() || left.toString().matches(".*\\w.*")) {
                faults.add("promise " + promise + ", words without a test: " + left.toString().trim());
            }
        }
        String rest = termsLeft.substring(section(document, "What it is").indexOf("An object is used"));
        if (rest.matches(".*\\w.*")) {
            faults.add("terms, words without a test: " + rest.trim());
        }
        return faults;
    }

    public static void main(String[] args) throws IOException, IllegalAccessException {
        int wrong = 0;
        for (Method test : tests()) {
            List<String> faults = faultsOf(test);
            Says says = test.getAnnotation(Says.class);
            for (String fault : faults) {
                System.out.println(nameOf(test) + ", promise " + Arrays.toString(says.promise()) + " \""
                    + says.sentence() + "\":\n  " + fault);
            }
            wrong += faults.size();
        }
        for (String fault : faultsOfSentences(Files.readString(DOCUMENT))) {
            System.out.println(fault);
            wrong++;
        }
        System.out.println(tests().size() + " tests of edges, " + wrong + " faults");
        if (wrong != 0) {
            System.exit(1);
        }
    }
}
