import java.lang.reflect.Executable;
import java.lang.reflect.Field;
import java.lang.reflect.Method;
import java.lang.reflect.Modifier;
import java.nio.file.Files;
import java.nio.file.Path;
import java.util.ArrayList;
import java.util.Arrays;
import java.util.List;
import java.util.regex.Matcher;
import java.util.regex.Pattern;

/** The public face, and those rules of LANGUAGE.md that a program can look at. */
public final class FaceTest {
    private static final Check check = new Check("FaceTest");
    private static final String SECTION = "The public face";
    /** As the document writes them. */
    private static final List<String> FACE = List.of(
        "public boolean type(long part);",
        "public void wipe();",
        "public void forget();",
        "public void function(int f, int parts, boolean cased)"
            + " throws IllegalArgumentException, IllegalStateException;",
        "public void body(int f, int c) throws IllegalStateException, IllegalArgumentException;",
        "public void goal() throws IllegalArgumentException;",
        "public boolean input(int v);",
        "public int drive() throws IllegalStateException, UnsupportedOperationException;",
        "public int node(int n, int w);",
        "public int term(int n, int i);",
        "public int residual(int n, int i);",
        "public int run(boolean driven, int fuel)"
            + " throws IllegalArgumentException, IllegalStateException;",
        "public int result(int i);",
        "public int steps();");
    private static final String IMPORTS =
        "import java\\.util\\.(ArrayList|List|Iterator|Arrays|NoSuchElementException|\\*);";
    private static final String EXCEPTIONS = "IllegalStateException|IllegalArgumentException"
        + "|IndexOutOfBoundsException|ArithmeticException|UnsupportedOperationException"
        + "|NoSuchElementException|RuntimeException";

    public static void main(String[] args) throws Exception {
        theClass();
        theMethods();
        theRest();
        if (args.length > 1 && Files.isRegularFile(Path.of(args[1]))) {
            compare(new Document(Path.of(args[1])));
        }
        check.by("LANGUAGE.md", "rules 1, 2, 5 and 11");
        theClassesInside();
        if (args.length > 0) {
            theSource(new SourceText(Files.readString(Path.of(args[0]))));
        }
        check.by("LANGUAGE.md", "rule 12");
        roomOfOneRun();
        check.end();
    }

    private static void compare(Document document) {
        for (Check.Words one : List.copyOf(check.quoted())) {
            check.dueTrue(one + " stands there", document.has(one.section(), one.words()));
        }
    }

    private static void theClass() {
        check.by(SECTION, "public final class SuperDriver {");
        check.dueTrue("final", Modifier.isFinal(SuperDriver.class.getModifiers()));
        check.dueTrue("public", Modifier.isPublic(SuperDriver.class.getModifiers()));
        check.due("above it", SuperDriver.class.getSuperclass().getName(), "java.lang.Object");
        check.due("interfaces", SuperDriver.class.getInterfaces().length, 0);
        check.by(SECTION, "public static final int NONE = -1;");
        check.due("NONE", SuperDriver.NONE, -1);
        for (Field field : SuperDriver.class.getDeclaredFields()) {
            boolean isFace = field.getName().equals("NONE");
            int want = Modifier.PUBLIC | Modifier.STATIC | Modifier.FINAL;
            check.dueTrue(field.getName(), isFace ? field.getModifiers() == want
                : Modifier.isPrivate(field.getModifiers()));
        }
        check.by(SECTION, "public SuperDriver();");
        check.due("the constructors", SuperDriver.class.getDeclaredConstructors().length, 1);
        check.due("the public ones", SuperDriver.class.getConstructors().length, 1);
        check.due("its parts", SuperDriver.class.getConstructors()[0].getParameterCount(), 0);
    }

    private static void theMethods() {
        List<String> found = new ArrayList<>();
        for (Method method : SuperDriver.class.getDeclaredMethods()) {
            found.add(shape(method));
        }
        for (String line : FACE) {
            check.by(SECTION, line);
            // The names of the parts are not to be seen from outside.
            String want = line.replaceAll("(int|long|boolean) \\w+([,)])", "$1$2");
            check.dueTrue(want, found.contains(want));
        }
    }

    private static void theRest() {
        check.by(SECTION, "public int steps(); }");
        int seen = 0;
        for (Method method : SuperDriver.class.getDeclaredMethods()) {
            check.dueTrue(method + " is public or private", isPublic(method)
                || Modifier.isPrivate(method.getModifiers()));
            seen += isPublic(method) ? 1 : 0;
        }
        check.due("public methods", seen, FACE.size());
    }

    private static boolean isPublic(Executable what) {
        return Modifier.isPublic(what.getModifiers());
    }

    private static String shape(Method method) {
        StringBuilder out = new StringBuilder(Modifier.toString(method.getModifiers()));
        out.append(' ').append(method.getReturnType().getSimpleName());
        out.append(' ').append(method.getName());
        out.append('(').append(names(method.getParameterTypes())).append(')');
        if (method.getExceptionTypes().length > 0) {
            out.append(" throws ").append(names(method.getExceptionTypes()));
        }
        return out.append(';').toString();
    }

    private static String names(Class<?>[] types) {
        List<String> names = new ArrayList<>();
        for (Class<?> type : types) {
            names.add(type.getSimpleName());
        }
        return String.join(", ", names);
    }

    private static void theClassesInside() {
        List<Class<?>> all = new ArrayList<>(Arrays.asList(SuperDriver.class.getDeclaredClasses()));
        for (Class<?> inside : all) {
            int modifiers = inside.getModifiers();
            check.dueTrue(inside + " is static", Modifier.isStatic(modifiers));
            check.dueFalse(inside + " is public", Modifier.isPublic(modifiers));
        }
        all.add(SuperDriver.class);
        for (Class<?> one : all) {
            int fields = 0;
            for (Field field : one.getDeclaredFields()) {
                int modifiers = field.getModifiers();
                check.dueTrue(field + " is final if static",
                    !Modifier.isStatic(modifiers) || Modifier.isFinal(modifiers));
                fields += Modifier.isStatic(modifiers) ? 0 : 1;
            }
            check.dueTrue(one + " has " + fields + " fields, of some twenty", fields <= 24);
            for (Method method : one.getDeclaredMethods()) {
                check.dueTrue(method + " has few parts", method.getParameterCount() <= 7);
                boolean named = FACE.stream().anyMatch(f -> f.contains(" " + method.getName() + "("));
                check.dueTrue(method + " has a name of its own",
                    !Modifier.isPrivate(method.getModifiers()) || !named);
            }
        }
    }

    private static void theSource(SourceText source) {
        check.by("LANGUAGE.md", "one file, without a package line, and rule 4");
        for (String line : source.lines()) {
            String code = line.trim();
            check.dueFalse("a package line", code.startsWith("package "));
            check.dueTrue(code, !code.startsWith("import ") || code.matches(IMPORTS));
        }
        none(source, "System\\.(?!arraycopy\\b)\\w+");
        none(source, "Math\\.\\w*Exact\\b");
        check.by("LANGUAGE.md", "rule 2");
        none(source, "::");
        for (String line : source.lines()) {
            check.dueTrue(line.trim(), !line.contains("->") || line.matches(".*\\b(case|default)\\b.*"));
        }
        check.by("LANGUAGE.md", "rule 6");
        none(source, "\\b(finally|synchronized|assert|getMessage)\\b");
        none(source, "\\bthrow\\s+(?!new\\s+(" + EXCEPTIONS + ")\\()");
        none(source, "\\bcatch\\s*\\((?!(final\\s+)?(" + EXCEPTIONS + ")\\b)");
        check.by("LANGUAGE.md", "rule 10");
        none(source, "\"\"\\s*\\+|\\+\\s*\"\"");
        check.by("LANGUAGE.md", "rule 11");
        check.dueTrue(source.classes() + " classes, of some twelve", source.classes() <= 14);
        check.dueTrue("methods are found", source.methods().size() > FACE.size());
        for (SourceText.Body body : source.methods()) {
            check.dueTrue(body + ", of some sixty", body.lines() <= 70);
        }
    }

    private static void none(SourceText source, String pattern) {
        Matcher found = Pattern.compile(pattern).matcher(source.code());
        check.due("what fits " + pattern, found.find() ? found.group() : "none", "none");
    }

    /** All calls of a run live in one room: a run of dear calls must leave some of it. */
    private static void roomOfOneRun() {
        com.sun.management.ThreadMXBean threads =
            (com.sun.management.ThreadMXBean) java.lang.management.ManagementFactory.getThreadMXBean();
        long id = Thread.currentThread().getId();
        dearRun();
        long before = threads.getThreadAllocatedBytes(id);
        dearRun();
        long made = threads.getThreadAllocatedBytes(id) - before;
        // A field has four bytes at least, or nearly all have.
        check.dueTrue("a run made " + made + " bytes", made < 4 * 7_300_000L);
    }

    private static void dearRun() {
        SuperDriver x = new SuperDriver();
        Check.function(x, 1, 2, true);
        Check.body(x, 1, 0, "a");
        Check.body(x, 1, 2, "1bMac");
        Check.goal(x, "1aK");
        Check.input(x, 0, "MNMLKMONK");
        driveAndRun(x, 160);
    }

    private static void driveAndRun(SuperDriver x, int times) {
        for (int k = 0; k < times; k++) {
            x.drive();
            x.run(true, 500);
            x.run(false, 500);
        }
    }
}
