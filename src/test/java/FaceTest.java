import java.lang.reflect.Constructor;
import java.lang.reflect.Field;
import java.lang.reflect.Method;
import java.lang.reflect.Modifier;
import java.nio.file.Files;
import java.nio.file.Path;
import java.util.List;
import java.util.Set;
import java.util.TreeSet;
import java.util.regex.Matcher;
import java.util.regex.Pattern;

/** The public face, and what of LANGUAGE.md can be seen by a plain look at the class and its source. */
public final class FaceTest {
    private static final Path SOURCE = Path.of("src/main/java/FrequencySketches.java");
    private static final Set<String> METHODS = new TreeSet<>(List.of(
        "int size(int)", "boolean pair(int, int, int)", "int hash(int, int)", "long add(int, int, int)",
        "boolean clear(int)", "boolean copy(int, int)", "long join(int, int)", "long total(int)",
        "long estimate(int, int, int, int)", "long count(int, int)", "long cell(int, int, int, int)",
        "long counter(int, int, int, int)", "long state(int, int)", "int report(int, int, int, boolean)",
        "long reported(int, int)", "long overcounts(int, int)", "int audit(int)"));

    private static int wrong = 0;

    private static void hold(boolean holds, String what) {
        if (!holds) {
            wrong++;
            System.out.println("this doesn't hold: " + what);
        }
    }

    private static String told(Method m) {
        StringBuilder text = new StringBuilder(m.getReturnType() + " " + m.getName() + "(");
        for (Class<?> c : m.getParameterTypes()) {
            text.append(text.charAt(text.length() - 1) == '(' ? "" : ", ").append(c);
        }
        return text.append(")").toString();
    }

    private static void face(Class<?> c) throws IllegalAccessException {
        hold(Modifier.isPublic(c.getModifiers()) && Modifier.isFinal(c.getModifiers()), "public and final");
        hold(FrequencySketches.NONE == -1, "NONE is -1");
        Set<String> seen = new TreeSet<>();
        Set<String> names = new TreeSet<>();
        for (Method m : c.getDeclaredMethods()) {
            if (Modifier.isPublic(m.getModifiers())) {
                seen.add(told(m));
                names.add(m.getName());
            } else {
                hold(m.isSynthetic() || Modifier.isPrivate(m.getModifiers()), m + " is private");
            }
        }
        hold(seen.equals(METHODS), "the methods are the document's: " + seen);
        for (Method m : c.getDeclaredMethods()) {
            hold(Modifier.isPublic(m.getModifiers()) || !names.contains(m.getName()), m + " has a name of its own");
        }
        for (Field f : c.getDeclaredFields()) {
            hold(Modifier.isPrivate(f.getModifiers()) || f.getName().equals("NONE"), f + " is private");
        }
        Constructor<?>[] made = c.getDeclaredConstructors();
        hold(made.length == 1 && Modifier.isPublic(made[0].getModifiers()) && made[0].getParameterCount() == 4,
            "one public constructor");
    }

    private static void inside(Class<?> c) {
        Class<?>[] all = c.getDeclaredClasses();
        hold(all.length + 1 <= 12, "at most twelve classes");
        for (Class<?> k : all) {
            hold(Modifier.isStatic(k.getModifiers()), k + " is static");
            hold(!Modifier.isPublic(k.getModifiers()) && !Modifier.isProtected(k.getModifiers()), k + " is not public");
            hold(k.getDeclaredFields().length <= 20, k + " has few fields");
            for (Method m : k.getDeclaredMethods()) {
                hold(m.getParameterCount() <= 7, m + " takes few parameters");
                hold(METHODS.stream().noneMatch(told -> told.contains(" " + m.getName() + "(")),
                    m + " has a name of its own");
            }
        }
    }

    private static void source() throws java.io.IOException {
        String text = Files.readString(SOURCE);
        hold(text.chars().allMatch(c -> c < 128), "plain signs alone");
        String code = text.replaceAll("(?s)/\\*.*?\\*/", "").replaceAll("//[^\n]*", "");
        for (String word : List.of("throw", "throws", "try", "catch", "synchronized", "assert", "package", "protected",
            "equals", "hashCode", "toString", "Exact", "Object", "Thread", "Random", "goto", "volatile")) {
            hold(!Pattern.compile("\\b" + word + "\\b").matcher(code).find(), "no '" + word + "'");
        }
        hold(!code.contains("->") && !code.contains("::") && !code.contains("@"), "no lambda, reference, annotation");
        Matcher imports = Pattern.compile("import ([^;]+);").matcher(code);
        while (imports.find()) {
            hold(imports.group(1).equals("java.util.Arrays"), "no import of " + imports.group(1));
        }
        Matcher library = Pattern.compile("\\b(Arrays|System|Math|Long|Integer)\\.(\\w+)").matcher(code);
        while (library.find()) {
            hold(List.of("Arrays.fill", "System.arraycopy", "Math.min", "Math.max")
                .contains(library.group()), "no use of " + library.group());
        }
    }

    public static void main(String[] args) throws Exception {
        face(FrequencySketches.class);
        inside(FrequencySketches.class);
        source();
        System.out.println(wrong == 0 ? "the face is the document's" : wrong + " faults of the face");
        if (wrong != 0) {
            System.exit(1);
        }
    }
}
