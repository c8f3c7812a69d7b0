import java.util.ArrayList;
import java.util.List;

/** What the tests share: answers that are due, by which words of the document, and a desk. */
final class Check {
    /** What a call that throws answers here. */
    static final long ARGUMENT = -1001;
    static final long STATE = -1002;
    static final long UNSUPPORTED = -1003;
    /** What a call that ends without an answer or an exception answers here. */
    static final long DONE = -1000;

    private static final int NONE = SuperDriver.NONE;
    private static final int SECONDS = 300;
    /** How a test ends in which a call does not. */
    private static final int NO_END = 3;

    /** A call of the face that may throw. */
    interface Call {
        long answer();
    }

    /** Words that stand in a section of the document. */
    record Words(String section, String words) { }

    private final String name;
    private final List<Words> quoted = new ArrayList<>();
    private String due = "";
    private int made = 0;
    private int wrong = 0;

    Check(String name) {
        this.name = name;
        Thread watch = new Thread(this::waitForEnd);
        watch.setDaemon(true);
        watch.start();
    }

    /** A call that does not end is a fault, too, and must not hold up the test for ever. */
    private void waitForEnd() {
        int seconds = Integer.getInteger("seconds", SECONDS);
        try {
            Thread.sleep(seconds * 1000L);
        } catch (InterruptedException e) {
            return;
        }
        System.out.println(name + due + ": no end after " + seconds + " seconds");
        Runtime.getRuntime().halt(NO_END);
    }

    /** From here on, what is due is due by these words of the document. */
    void by(String section, String words) {
        quoted.add(new Words(section, words));
        due = " [" + section + ": \"" + words + "\"]";
    }

    List<Words> quoted() {
        return quoted;
    }

    static long answer(Call call) {
        try {
            return call.answer();
        } catch (IllegalArgumentException e) {
            return e.getClass() == IllegalArgumentException.class ? ARGUMENT : other(e);
        } catch (IllegalStateException e) {
            return e.getClass() == IllegalStateException.class ? STATE : other(e);
        } catch (UnsupportedOperationException e) {
            return e.getClass() == UnsupportedOperationException.class ? UNSUPPORTED : other(e);
        }
    }

    private static long other(RuntimeException e) {
        throw new IllegalCallerException("the document names no such exception", e);
    }

    void due(String what, long got, long want) {
        made++;
        if (got != want) {
            tell(what, got, want);
        }
    }

    void due(String what, String got, String want) {
        made++;
        if (!got.equals(want)) {
            tell(what, got, want);
        }
    }

    private void tell(String what, Object got, Object want) {
        wrong++;
        System.out.println(name + due + ": " + what + " answered " + got + ", due is " + want);
    }

    void dueTrue(String what, boolean got) {
        due(what, got ? 1 : 0, 1);
    }

    void dueFalse(String what, boolean got) {
        due(what, got ? 1 : 0, 0);
    }

    int wrong() {
        return wrong;
    }

    void end() {
        System.out.println(name + ": " + made + " answers, " + wrong + " not as due");
        if (wrong != 0) {
            System.exit(1);
        }
    }

    // ---- calls with letters, and with answers for exceptions ----

    static long part(String letters) {
        long part = 0;
        for (int i = 0; i < letters.length(); i++) {
            part = part << 8 | letters.charAt(i);
        }
        return part;
    }

    static boolean type(SuperDriver x, String letters) {
        for (int i = 0; i < letters.length(); i += 8) {
            if (!x.type(part(letters.substring(i, Math.min(i + 8, letters.length()))))) {
                return false;
            }
        }
        return true;
    }

    static long function(SuperDriver x, int f, int parts, boolean cased) {
        return answer(() -> {
            x.function(f, parts, cased);
            return DONE;
        });
    }

    static long body(SuperDriver x, int f, int c) {
        return answer(() -> {
            x.body(f, c);
            return DONE;
        });
    }

    static long body(SuperDriver x, int f, int c, String letters) {
        type(x, letters);
        return body(x, f, c);
    }

    static long goal(SuperDriver x) {
        return answer(() -> {
            x.goal();
            return DONE;
        });
    }

    static long goal(SuperDriver x, String letters) {
        type(x, letters);
        return goal(x);
    }

    static boolean input(SuperDriver x, int v, String letters) {
        type(x, letters);
        return x.input(v);
    }

    static long drive(SuperDriver x) {
        return answer(x::drive);
    }

    static long run(SuperDriver x, boolean driven, int fuel) {
        return answer(() -> x.run(driven, fuel));
    }

    static boolean hasTree(SuperDriver x) {
        return x.node(0, 0) != NONE;
    }

    // ---- programs ----

    /**
     * An object with functions: "0/2/cased K=a M=Ma0bc" has two parts and two clauses,
     * "1/1/plain 1La" one part and a body; "2/1/plain" has none.
     */
    SuperDriver program(String... functions) {
        SuperDriver x = new SuperDriver();
        for (String function : functions) {
            int f = function.charAt(0) - '0';
            boolean cased = function.startsWith("cased", 4);
            due("function " + function, function(x, f, function.charAt(2) - '0', cased), DONE);
        }
        for (String function : functions) {
            String[] words = function.split(" ");
            for (int k = 1; k < words.length; k++) {
                boolean clause = words[k].indexOf('=') == 1;
                int c = clause ? words[k].charAt(0) - 'K' : NONE;
                String text = clause ? words[k].substring(2) : words[k];
                due("body " + words[k], body(x, function.charAt(0) - '0', c, text), DONE);
            }
        }
        return x;
    }

    void driven(SuperDriver x, String goal, int nodes) {
        due("goal " + goal, goal(x, goal), DONE);
        due("drive() of " + goal, drive(x), nodes);
    }

    /**
     * The goal becomes one whose tree is a chain of so many nodes (2 at least), and behind them
     * one with the call of f with a, b, .. as its parts; functions 6 and 7 are taken for that.
     */
    void chain(SuperDriver x, int before, int f, int parts) {
        int most = 23 - parts;
        int first = Math.min(before - 2, most);
        int second = Math.min(before - 2 - first, most);
        int third = before - 2 - first - second;
        String variables = "abc".substring(0, parts);
        due("function 7", function(x, 7, parts, false), DONE);
        due("function 6", function(x, 6, parts, false), DONE);
        due("body of 7", body(x, 7, NONE, "L".repeat(second) + 6 + variables), DONE);
        due("body of 6", body(x, 6, NONE, "L".repeat(third) + f + variables), DONE);
        due("goal", goal(x, "L".repeat(first) + 7 + variables), DONE);
    }

    // ---- trees ----

    /** What the nodes are, a digit each. */
    static String kinds(SuperDriver x) {
        StringBuilder out = new StringBuilder();
        for (int n = 0; x.node(n, 0) != NONE; n++) {
            out.append(x.node(n, 0));
        }
        return out.toString();
    }

    static String term(SuperDriver x, int n) {
        StringBuilder out = new StringBuilder();
        for (int i = 0; i < x.term(n, NONE); i++) {
            out.append(i == 0 ? "" : " ").append(sign(x.term(n, i)));
        }
        return out.toString();
    }

    static String residual(SuperDriver x, int n) {
        StringBuilder out = new StringBuilder();
        for (int i = 0; i < x.residual(n, NONE); i++) {
            out.append(i == 0 ? "" : " ").append(sign(x.residual(n, i)));
        }
        return out.toString();
    }

    /** Variables a .. h and x8, x9, ..; constructors K .. P; functions f0 .. f7; residual r0 ... */
    private static String sign(int sign) {
        if (sign < 8) {
            return String.valueOf((char) ('a' + sign));
        }
        if (sign < 100) {
            return "x" + sign;
        }
        if (sign < 200) {
            return String.valueOf((char) ('K' + sign - 100));
        }
        if (sign < 300) {
            return "f" + (sign - 200);
        }
        return sign == 400 ? "STUCK" : "r" + (sign - 300);
    }

    void kinds(SuperDriver x, String want) {
        due("what the nodes are", kinds(x), want);
    }

    /** node(0, w), node(1, w) and so on, and NONE behind them. */
    void nodes(SuperDriver x, int w, int... want) {
        for (int n = 0; n < want.length; n++) {
            due("node(" + n + ", " + w + ")", x.node(n, w), want[n]);
        }
        due("node(" + want.length + ", " + w + ")", x.node(want.length, w), NONE);
    }

    void terms(SuperDriver x, String... want) {
        for (int n = 0; n < want.length; n++) {
            due("term of node " + n, term(x, n), want[n]);
        }
    }

    void residuals(SuperDriver x, String... want) {
        for (int n = 0; n < want.length; n++) {
            due("residual term of node " + n, residual(x, n), want[n]);
        }
    }

    // ---- runs ----

    static String result(SuperDriver x) {
        StringBuilder out = new StringBuilder();
        for (int i = 0; i < x.result(NONE); i++) {
            out.append((char) ('K' + x.result(i)));
        }
        return out.toString();
    }

    /** A run that ends so after so many steps, with that value if it ends with 0. */
    void runs(SuperDriver x, boolean driven, int fuel, int end, int steps, String value) {
        String what = "run(" + driven + ", " + fuel + ")";
        due(what, run(x, driven, fuel), end);
        due("steps() of " + what, x.steps(), steps);
        due("result(NONE) of " + what, x.result(NONE), end == 0 ? value.length() : NONE);
        due("result of " + what, result(x), value);
    }
}
