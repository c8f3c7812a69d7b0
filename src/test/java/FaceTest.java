import java.lang.reflect.Executable;
import java.lang.reflect.Field;
import java.lang.reflect.Method;
import java.lang.reflect.Modifier;
import java.nio.file.Files;
import java.nio.file.Path;
import java.util.ArrayList;
import java.util.Arrays;
import java.util.List;
import java.util.Set;
import java.util.TreeSet;

/** The public face, and those rules of LANGUAGE.md that a program can look at. */
public final class FaceTest {
    private static final Check check = new Check("FaceTest");
    private static final Set<String> FACE = new TreeSet<>(Arrays.asList(
        "boolean type(long)", "void wipe()", "void forget()",
        "void function(int, int, boolean) IllegalArgumentException IllegalStateException",
        "void body(int, int) IllegalStateException IllegalArgumentException",
        "void goal() IllegalArgumentException", "boolean input(int)",
        "int drive() IllegalStateException UnsupportedOperationException",
        "int node(int, int)", "int term(int, int)", "int residual(int, int)",
        "int run(boolean, int) IllegalArgumentException IllegalStateException",
        "int result(int)", "int steps()"));

    public static void main(String[] args) throws Exception {
        theFace();
        theClassesInside();
        if (args.length > 0) {
            theSource(Files.readAllLines(Path.of(args[0])));
        }
        callsMakeNoObjects();
        check.end();
    }

    private static void theFace() {
        Set<String> found = new TreeSet<>();
        for (Method method : SuperDriver.class.getDeclaredMethods()) {
            if (!Modifier.isPrivate(method.getModifiers())) {
                check.dueTrue(method.getName() + " is public", isPublic(method));
                found.add(shape(method));
            }
        }
        check.due("the methods", found.toString(), FACE.toString());
        check.due("the constructors", SuperDriver.class.getDeclaredConstructors().length, 1);
        check.due("its parts", SuperDriver.class.getConstructors()[0].getParameterCount(), 0);
        check.dueTrue("final", Modifier.isFinal(SuperDriver.class.getModifiers()));
        for (Field field : SuperDriver.class.getDeclaredFields()) {
            boolean isFace = field.getName().equals("NONE");
            check.dueTrue(field.getName() + " is not to be seen",
                isFace ? Modifier.isPublic(field.getModifiers())
                    : Modifier.isPrivate(field.getModifiers()));
        }
    }

    private static boolean isPublic(Executable what) {
        return Modifier.isPublic(what.getModifiers());
    }

    private static String shape(Method method) {
        List<String> parts = new ArrayList<>();
        for (Class<?> part : method.getParameterTypes()) {
            parts.add(part.getSimpleName());
        }
        StringBuilder out = new StringBuilder(method.getReturnType().getSimpleName());
        out.append(' ').append(method.getName()).append('(').append(String.join(", ", parts));
        out.append(')');
        for (Class<?> thrown : method.getExceptionTypes()) {
            out.append(' ').append(thrown.getSimpleName());
        }
        return out.toString();
    }

    private static void theClassesInside() {
        List<Class<?>> all = new ArrayList<>(Arrays.asList(SuperDriver.class.getDeclaredClasses()));
        check.dueTrue("at most twelve classes", all.size() + 1 <= 12);
        for (Class<?> inside : all) {
            int modifiers = inside.getModifiers();
            check.dueTrue(inside + " is static", Modifier.isStatic(modifiers));
            check.dueFalse(inside + " is public", Modifier.isPublic(modifiers));
        }
        all.add(SuperDriver.class);
        for (Class<?> one : all) {
            int fields = 0;
            for (Field field : one.getDeclaredFields()) {
                int modifiers = field.getModifiers();
                check.dueTrue(field + " is final if static",
                    !Modifier.isStatic(modifiers) || Modifier.isFinal(modifiers));
                fields += Modifier.isStatic(modifiers) ? 0 : 1;
            }
            check.dueTrue(one + " has few fields", fields <= 20);
            for (Method method : one.getDeclaredMethods()) {
                check.dueTrue(method + " has few parts", method.getParameterCount() <= 7);
                boolean named = FACE.stream().anyMatch(f -> f.contains(" " + method.getName() + "("));
                check.dueTrue(method + " has a name of its own", one == SuperDriver.class
                    && isPublic(method) || !named);
            }
        }
    }

    private static void theSource(List<String> lines) {
        String[] never = {"import ", "package ", "->", "::", "try ", "catch ", "finally",
            "synchronized", "assert ", "volatile", "var ", "@", "double", "float", "\" +", "+ \""};
        int methodStart = 0;
        for (int i = 0; i < lines.size(); i++) {
            String line = lines.get(i);
            String code = line.trim();
            if (!code.startsWith("*") && !code.startsWith("/")) {
                for (String word : never) {
                    check.dueFalse("line " + (i + 1) + " has " + word, code.contains(word));
                }
            }
            check.dueTrue("line " + (i + 1) + " is short", line.length() <= 100);
            if (code.endsWith("{") && code.contains("(")
                && line.matches("( {4}| {8})[A-Za-z].*")) {
                methodStart = i;
            }
            if (line.matches("( {4}| {8})\\}")) {
                check.dueTrue("a method that ends in line " + (i + 1) + " is short",
                    i - methodStart <= 60 || line.matches(" {4}\\}"));
            }
        }
    }

    /** All calls of a run live in one room, so only a constructor may fill it. */
    private static void callsMakeNoObjects() {
        com.sun.management.ThreadMXBean threads =
            (com.sun.management.ThreadMXBean) java.lang.management.ManagementFactory.getThreadMXBean();
        SuperDriver x = new SuperDriver();
        Check.function(x, 1, 2, true);
        Check.body(x, 1, 0, "a");
        Check.body(x, 1, 2, "1bMac");
        Check.goal(x, "1aK");
        Check.input(x, 0, "MNMLKMONK");
        long id = Thread.currentThread().getId();
        driveAndRun(x, 3);
        long before = threads.getThreadAllocatedBytes(id);
        driveAndRun(x, 170);
        long made = threads.getThreadAllocatedBytes(id) - before;
        check.dueTrue("510 calls made " + made + " bytes", made < 16_384);
        before = threads.getThreadAllocatedBytes(id);
        SuperDriver y = new SuperDriver();
        made = threads.getThreadAllocatedBytes(id) - before;
        // 512 objects with all that is in them must find room: some 14,000 fields and elements each.
        check.dueTrue("an object has " + made + " bytes", made < 64_000 && y.steps() == 0);
    }

    private static void driveAndRun(SuperDriver x, int times) {
        for (int k = 0; k < times; k++) {
            x.drive();
            x.run(true, 500);
            x.run(false, 500);
        }
    }
}
