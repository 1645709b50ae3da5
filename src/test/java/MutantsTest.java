import java.io.ByteArrayOutputStream;
import java.io.IOException;
import java.io.InputStream;
import java.io.OutputStream;
import java.io.PrintStream;
import java.net.URI;
import java.nio.file.Files;
import java.nio.file.Path;
import java.util.ArrayList;
import java.util.HashMap;
import java.util.HashSet;
import java.util.List;
import java.util.Map;
import java.util.Set;
import java.util.stream.Collectors;
import java.util.stream.IntStream;
import javax.tools.FileObject;
import javax.tools.ForwardingJavaFileManager;
import javax.tools.JavaCompiler;
import javax.tools.JavaFileManager;
import javax.tools.JavaFileObject;
import javax.tools.SimpleJavaFileObject;
import javax.tools.ToolProvider;

/**
 * That the tests of the edges see what they say: for each of them the class is broken in one place, by
 * Mutants, and the test has to fail with it. A place that isn't in the class any more is told, and no
 * fault: how the class is written is free. Then the mutant wants to be written anew.
 */
public final class MutantsTest {
    private static final Path SOURCE = Path.of("src/main/java/FrequencySketches.java");

    private MutantsTest() {
    }

    /** A class file that stays in memory. */
    private static final class Compiled extends SimpleJavaFileObject {
        private final ByteArrayOutputStream bytes = new ByteArrayOutputStream();

        Compiled(String name) {
            super(URI.create("memory:///" + name + ".class"), Kind.CLASS);
        }

        @Override
        public OutputStream openOutputStream() {
            return bytes;
        }
    }

    private static final class Source extends SimpleJavaFileObject {
        private final String text;

        Source(String text) {
            super(URI.create("memory:///FrequencySketches.java"), Kind.SOURCE);
            this.text = text;
        }

        @Override
        public CharSequence getCharContent(boolean ignoreErrors) {
            return text;
        }
    }

    private static final class InMemory extends ForwardingJavaFileManager<JavaFileManager> {
        private final Map<String, Compiled> classes = new HashMap<>();

        InMemory(JavaFileManager manager) {
            super(manager);
        }

        @Override
        public JavaFileObject getJavaFileForOutput(Location at, String name, JavaFileObject.Kind kind, FileObject near) {
            Compiled c = new Compiled(name);
            classes.put(name, c);
            return c;
        }
    }

    /** The project's classes anew, with the broken one among them. */
    private static final class Loader extends ClassLoader {
        private final Map<String, Compiled> broken;

        Loader(Map<String, Compiled> broken) {
            super(MutantsTest.class.getClassLoader());
            this.broken = broken;
        }

        @Override
        protected Class<?> loadClass(String name, boolean resolve) throws ClassNotFoundException {
            synchronized (getClassLoadingLock(name)) {
                Class<?> known = findLoadedClass(name);
                if (known != null) {
                    return known;
                }
                byte[] bytes = bytesOf(name);
                return bytes == null ? super.loadClass(name, resolve) : defineClass(name, bytes, 0, bytes.length);
            }
        }

        private byte[] bytesOf(String name) throws ClassNotFoundException {
            if (broken.containsKey(name)) {
                return broken.get(name).bytes.toByteArray();
            }
            if (name.contains(".")) {
                return null;
            }
            try (InputStream in = getResourceAsStream(name + ".class")) {
                return in == null ? null : in.readAllBytes();
            } catch (IOException e) {
                throw new ClassNotFoundException(name, e);
            }
        }
    }

    /** The source with one place changed: the first one behind the mark; null if there is none. */
    private static String broken(String source, String[] mutant) {
        int from = source.indexOf(mutant[Mutants.MARK]);
        int at = from < 0 ? -1 : source.indexOf(mutant[Mutants.OLD], from);
        if (at < 0) {
            return null;
        }
        return source.substring(0, at) + mutant[Mutants.NEW] + source.substring(at + mutant[Mutants.OLD].length());
    }

    private static Map<String, Compiled> compile(String text) {
        JavaCompiler compiler = ToolProvider.getSystemJavaCompiler();
        ByteArrayOutputStream said = new ByteArrayOutputStream();
        InMemory files = new InMemory(compiler.getStandardFileManager(null, null, null));
        boolean fine = compiler.getTask(new java.io.PrintWriter(said), files, null, List.of("-proc:none"), null,
            List.of(new Source(text))).call();
        return fine ? files.classes : Map.of();
    }

    /** What is wrong with a mutant; empty if its test fails with it. */
    private static String look(String source, String[] mutant) {
        String told = mutant[Mutants.TEST] + ", '" + mutant[Mutants.OLD] + "' to '" + mutant[Mutants.NEW] + "'";
        String text = broken(source, mutant);
        if (text == null) {
            return "not in the class any more, wants to be written anew: " + told;
        }
        Map<String, Compiled> classes = compile(text);
        if (classes.isEmpty()) {
            return "FAULT: doesn't compile: " + told;
        }
        try {
            Class<?> tests = new Loader(classes).loadClass("EdgesTest");
            boolean fails = (Boolean) tests.getMethod("fails", String.class).invoke(null, mutant[Mutants.TEST]);
            return fails ? "" : "FAULT: the test doesn't see it: " + told;
        } catch (ReflectiveOperationException e) {
            return "FAULT: " + e + ": " + told;
        }
    }

    private static List<String> testsWithoutAMutant() {
        Set<String> seen = new HashSet<>();
        for (String[] mutant : Mutants.ALL) {
            seen.add(mutant[Mutants.TEST]);
        }
        List<String> without = new ArrayList<>();
        EdgesTest.tests().forEach(test -> {
            if (!seen.contains(EdgesTest.nameOf(test))) {
                without.add("FAULT: no mutant for " + EdgesTest.nameOf(test));
            }
        });
        return without;
    }

    public static void main(String[] args) throws IOException {
        String source = Files.readString(SOURCE);
        PrintStream out = System.out;
        List<String> told = IntStream.range(0, Mutants.ALL.length).parallel()
            .mapToObj(i -> look(source, Mutants.ALL[i])).filter(s -> !s.isEmpty()).collect(Collectors.toList());
        told.addAll(testsWithoutAMutant());
        told.forEach(out::println);
        out.println(Mutants.ALL.length + " mutants, " + told.size() + " told of");
        if (told.stream().anyMatch(s -> s.startsWith("FAULT"))) {
            System.exit(1);
        }
    }
}
