import com.sun.management.ThreadMXBean;
import java.io.IOException;
import java.lang.management.ManagementFactory;
import java.lang.reflect.Executable;
import java.lang.reflect.Field;
import java.lang.reflect.Modifier;
import java.nio.file.Files;
import java.nio.file.Path;
import java.util.ArrayList;
import java.util.Arrays;
import java.util.List;
import java.util.Set;
import java.util.TreeSet;
import java.util.regex.Matcher;
import java.util.regex.Pattern;

/** Rules of LANGUAGE.md that can be told from the class and its source; run from the project's directory. */
public final class LanguageTest {
    private static final Checks CHECKS = new Checks();
    private static final Set<Class<?>> CONSTANTS = Set.of(int.class, long.class, boolean.class, char.class,
            String.class, int[].class, long[].class, char[].class, byte[].class);
    private static final String[] FORBIDDEN = {"synchronized", "assert", "finally", "try", "catch", "instanceof",
        "double", "float", "Object", "equals", "hashCode", "toString", "getMessage", "Random", "Thread", "->", "::"};
    private static final Set<String> LIBRARY = Set.of(
            "Integer.bitCount", "Integer.rotateLeft", "System.arraycopy", "Arrays.fill");
    private static final Set<String> THROWN = Set.of("IllegalArgumentException", "IllegalStateException");
    /** Far less than one small object for each call. */
    private static final long SLACK_BYTES = 4096;

    public static void main(String[] args) throws IOException {
        List<Class<?>> classes = new ArrayList<>(List.of(MaskedSum.class));
        classes.addAll(Arrays.asList(MaskedSum.class.getDeclaredClasses()));
        CHECKS.due("rule 11: at most twelve classes", classes.size() <= 12, true);
        for (Class<?> one : classes) {
            fields(one);
            parameters(one.getDeclaredConstructors());
            parameters(one.getDeclaredMethods());
        }
        source(withoutComments(Files.readString(Path.of("src/main/java/MaskedSum.java"))));
        callsMakeNoObjects();
        CHECKS.end();
    }

    private static void fields(Class<?> one) {
        int own = 0;
        for (Field field : one.getDeclaredFields()) {
            if (Modifier.isStatic(field.getModifiers())) {
                CHECKS.due("rule 5: final: " + field, Modifier.isFinal(field.getModifiers()), true);
                CHECKS.due("rule 5: a constant: " + field, CONSTANTS.contains(field.getType()), true);
            } else {
                own++;
            }
        }
        CHECKS.due("rule 11: at most twenty fields: " + one, own <= 20, true);
    }

    private static void parameters(Executable[] all) {
        for (Executable one : all) {
            CHECKS.due("rule 11: at most seven parameters: " + one, one.getParameterCount() <= 7, true);
        }
    }

    private static String withoutComments(String source) {
        return source.replaceAll("(?s)/\\*.*?\\*/", "").replaceAll("//[^\n]*", "");
    }

    private static void source(String text) {
        for (String word : FORBIDDEN) {
            String edge = Character.isLetter(word.charAt(0)) ? "\\b" : "";
            boolean there = Pattern.compile(edge + Pattern.quote(word) + edge).matcher(text).find();
            CHECKS.due("rules 3 to 6: uses " + word, there, false);
        }
        CHECKS.same("rule 4: imports", found("import ([^;]+);", text, Set.of()), "[java.util.Arrays]");
        CHECKS.same("rule 4: the library", found("\\b([A-Z]\\w*\\.\\w+)\\(", text, ownCalls()), "[]");
        CHECKS.same("rule 6: what is thrown", found("throw new (\\w+)\\(\\);", text, THROWN), "[]");
        CHECKS.same("rule 6: thrown in this way alone", found("(throw (?!new \\w+\\(\\);))", text, Set.of()), "[]");
        CHECKS.same("rule 13: in no other package", found("\\b(javax?\\.[\\w.]+)", text, Set.of("java.util.Arrays")), "[]");
    }

    /** What may be called by a class's name: the library's, and static methods of the program's own. */
    private static Set<String> ownCalls() {
        Set<String> calls = new TreeSet<>(LIBRARY);
        for (Class<?> one : MaskedSum.class.getDeclaredClasses()) {
            Arrays.stream(one.getDeclaredMethods()).forEach(m -> calls.add(one.getSimpleName() + "." + m.getName()));
        }
        return calls;
    }

    /** What the pattern finds and isn't known. */
    private static String found(String pattern, String text, Set<String> known) {
        Set<String> all = new TreeSet<>();
        Matcher matcher = Pattern.compile(pattern).matcher(text);
        while (matcher.find()) {
            if (!known.contains(matcher.group(1))) {
                all.add(matcher.group(1));
            }
        }
        return all.toString();
    }

    /** Rule 12: what a run makes is counted, so calls use the rows that the constructors made. */
    private static void callsMakeNoObjects() {
        ThreadMXBean threads = (ThreadMXBean) ManagementFactory.getThreadMXBean();
        CHECKS.due("allocation can be told", threads.isThreadAllocatedMemorySupported(), true);
        long self = Thread.currentThread().getId();
        MaskedSum x = new MaskedSum();
        calls(x);
        long before = threads.getThreadAllocatedBytes(self);
        calls(x);
        long made = threads.getThreadAllocatedBytes(self) - before;
        CHECKS.due("rule 12: calls made " + made + " bytes", made < SLACK_BYTES, true);
    }

    /** Every call, in a round of eight phones; masked words of some are lost, and so are some boxes. */
    private static void calls(MaskedSum x) {
        x.start(8, 5);
        for (int u = 0; u < 8; u++) {
            x.secret(u, u % 3, 77 * u, -u);
            x.input(u, u % 4, u);
        }
        for (int stage = 0; stage < 4; stage++) {
            for (int u = 0; u < 8; u++) {
                x.step(u);
            }
            if (stage == 2) {
                x.lose(7);
                x.lose(0);
            }
            deliverAll(x);
            x.close();
            if (stage == 1) {
                x.alter(0, 9, 1);
            }
            deliverAll(x);
        }
        CHECKS.due("ended", x.count(1), 4);
        CHECKS.due("total(0)", x.total(0), 4);
        for (int k = 0; k < 64; k++) {
            x.stream(k, k, k, k, k);
            x.phone(k % 8, k % 4);
            x.count(k % 8);
        }
    }

    private static void deliverAll(MaskedSum x) {
        while (x.count(0) > 0) {
            x.message(0, 3);
            x.deliver(0);
        }
    }
}
