import java.lang.reflect.Constructor;
import java.lang.reflect.Field;
import java.lang.reflect.Method;
import java.lang.reflect.Modifier;
import java.util.Set;
import java.util.TreeSet;

/** The public face is the document's and no more (LANGUAGE.md, rule 1). */
public final class FaceTest {
    private static final Checks CHECKS = new Checks();
    /** Each method with what it may throw: a bad argument (A), a bad state (S). */
    private static final String[] FACE = {
        "void start(int,int) A", "void secret(int,int,int,int) A S", "void input(int,int,int) A S",
        "boolean step(int) A S", "int close() S", "boolean deliver(int) A", "void lose(int) A",
        "void alter(int,int,int) A", "int message(int,int) A", "int total(int) A S", "int phone(int,int) A",
        "int count(int)", "int stream(int,int,int,int,int) A"};

    public static void main(String[] args) {
        CHECKS.due("public and final", MaskedSum.class.getModifiers() == (Modifier.PUBLIC | Modifier.FINAL), true);
        Constructor<?>[] constructors = MaskedSum.class.getDeclaredConstructors();
        CHECKS.due("constructors", constructors.length, 1);
        CHECKS.due("its parameters", constructors[0].getParameterCount(), 0);
        CHECKS.due("it is public", Modifier.isPublic(constructors[0].getModifiers()), true);
        methods();
        for (Field field : MaskedSum.class.getDeclaredFields()) {
            CHECKS.due("private: " + field.getName(), Modifier.isPrivate(field.getModifiers()), true);
        }
        for (Class<?> inside : MaskedSum.class.getDeclaredClasses()) {
            CHECKS.due("static: " + inside.getName(), Modifier.isStatic(inside.getModifiers()), true);
            CHECKS.due("public: " + inside.getName(), Modifier.isPublic(inside.getModifiers()), false);
        }
        CHECKS.end();
    }

    private static void methods() {
        Set<String> seen = new TreeSet<>();
        Set<String> names = new TreeSet<>();
        for (Method method : MaskedSum.class.getDeclaredMethods()) {
            if (Modifier.isPublic(method.getModifiers())) {
                seen.add(signature(method));
                names.add(method.getName());
            }
        }
        CHECKS.same("the face", seen.toString(), new TreeSet<>(Set.of(FACE)).toString());
        for (Method method : MaskedSum.class.getDeclaredMethods()) {
            if (!Modifier.isPublic(method.getModifiers())) {
                CHECKS.due("private: " + method, Modifier.isPrivate(method.getModifiers()), true);
                CHECKS.due("a name of the face's own: " + method, names.contains(method.getName()), false);
            }
        }
    }

    private static String signature(Method method) {
        StringBuilder text = new StringBuilder(method.getReturnType() + " " + method.getName() + "(");
        for (Class<?> parameter : method.getParameterTypes()) {
            text.append(text.charAt(text.length() - 1) == '(' ? "" : ",").append(parameter);
        }
        text.append(")");
        for (Class<?> thrown : method.getExceptionTypes()) {
            text.append(thrown == IllegalArgumentException.class ? " A" : thrown == IllegalStateException.class ? " S" : " ?");
        }
        return text.toString();
    }
}
