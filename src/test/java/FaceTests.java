import java.lang.reflect.Constructor;
import java.lang.reflect.Field;
import java.lang.reflect.Method;
import java.lang.reflect.Modifier;
import java.util.Arrays;
import java.util.HashSet;
import java.util.Set;
import java.util.TreeSet;

/** The public face as the document writes it, and nothing beside it (LANGUAGE.md, rule 1). */
public final class FaceTests {
    private static final String[] FACE = {
        "int feed(int, int, int, int, int)",
        "int text(int) throws IllegalArgumentException",
        "int fault()",
        "int first(int, int) throws NoSuchElementException, IllegalArgumentException",
        "int chance(int, int) throws NoSuchElementException, IllegalArgumentException",
        "int undo()",
        "int told(int) throws IllegalArgumentException",
        "int statement(int, int) throws NoSuchElementException, IllegalArgumentException",
        "int firstOf(int) throws NoSuchElementException",
        "int state(int, int) throws IllegalStateException, NoSuchElementException, IllegalArgumentException",
        "int arc(int, int, int) throws IllegalStateException, NoSuchElementException, IllegalArgumentException",
        "int total(int, int) throws IllegalStateException, IllegalArgumentException",
        "int value(int, int, int) throws IllegalStateException, NoSuchElementException, IllegalArgumentException",
        "int both(int, int, int, int, int) throws IllegalStateException, NoSuchElementException, "
            + "IllegalArgumentException",
        "int mean(int, int) throws IllegalStateException, NoSuchElementException, IllegalArgumentException",
        "int independent(int, int) throws IllegalStateException, NoSuchElementException",
        "int visits(int, int) throws IllegalStateException, NoSuchElementException, IllegalArgumentException",
        "int steps(int) throws IllegalStateException, IllegalArgumentException",
        "int within(int, int) throws IllegalStateException, IllegalArgumentException",
        "int classes(int) throws IllegalStateException, NoSuchElementException",
        "int classOf(int, int) throws IllegalStateException, NoSuchElementException",
        "int run(int) throws IllegalStateException",
        "long worth() throws IllegalStateException",
        "long print()",
        "int status(int)"};

    public static void main(String[] args) {
        Set<String> due = new TreeSet<>(Arrays.asList(FACE));
        Set<String> found = new TreeSet<>();
        Set<String> publicNames = new HashSet<>();
        for (Method method : OddsSolver.class.getDeclaredMethods()) {
            if (Modifier.isPublic(method.getModifiers())) {
                found.add(written(method));
                publicNames.add(method.getName());
            } else {
                isPrivate("method " + method.getName(), method.getModifiers());
            }
        }
        for (String method : due) {
            Check.due("there is " + method, found.contains(method) ? 1 : 0, 1);
        }
        for (String method : found) {
            Check.due("the document has " + method, due.contains(method) ? 1 : 0, 1);
        }
        for (Field field : OddsSolver.class.getDeclaredFields()) {
            if (!field.getName().equals("NONE")) {
                isPrivate("field " + field.getName(), field.getModifiers());
            }
        }
        Constructor<?>[] constructors = OddsSolver.class.getDeclaredConstructors();
        Check.due("one constructor", constructors.length, 1);
        Check.due("without parameters", constructors[0].getParameterCount(), 0);
        Check.due("public and final",
                OddsSolver.class.getModifiers() & (Modifier.PUBLIC | Modifier.FINAL), Modifier.PUBLIC | Modifier.FINAL);
        compareInside(publicNames);
        Check.close();
    }

    private static void isPrivate(String what, int modifiers) {
        Check.due(what + " is private", Modifier.isPrivate(modifiers) ? 1 : 0, 1);
    }

    private static String written(Method method) {
        StringBuilder text = new StringBuilder(method.getReturnType().getSimpleName() + " " + method.getName());
        text.append(listed("(", method.getParameterTypes())).append(")");
        return text.append(listed(" throws ", method.getExceptionTypes()).replaceAll("^ throws $", "")).toString();
    }

    private static String listed(String before, Class<?>[] types) {
        StringBuilder text = new StringBuilder(before);
        for (int k = 0; k < types.length; k++) {
            text.append(k == 0 ? "" : ", ").append(types[k].getSimpleName());
        }
        return text.toString();
    }

    private static void compareInside(Set<String> publicNames) {
        Class<?>[] inside = OddsSolver.class.getDeclaredClasses();
        Check.due("at most twelve classes", inside.length < 12 ? 1 : 0, 1);
        for (Class<?> one : inside) {
            Check.due(one + " is private or package-visible, and static",
                    one.getModifiers() & (Modifier.PUBLIC | Modifier.PROTECTED | Modifier.STATIC), Modifier.STATIC);
            for (Method method : one.getDeclaredMethods()) {
                Check.due(one + " has no " + method.getName(), publicNames.contains(method.getName()) ? 1 : 0, 0);
                Check.due("at most seven parameters", method.getParameterCount() <= 7 ? 1 : 0, 1);
            }
            int fields = 0;
            for (Field field : one.getDeclaredFields()) {
                boolean constant = Modifier.isStatic(field.getModifiers());
                fields += constant ? 0 : 1;
                Check.due(field + ", if static, is final",
                        constant && !Modifier.isFinal(field.getModifiers()) ? 1 : 0, 0);
            }
            Check.due(one + " has at most twenty fields", fields <= 20 ? 1 : 0, 1);
        }
    }
}
