import java.util.function.Function;
import java.util.function.Supplier;
import java.util.function.ToLongFunction;

/**
 * What the document says of calls that are refused: after each of them an object is looked at in
 * every way, beside one that was made like it and did not have that call.
 */
final class RefusedCases {
    private static final int NONE = SuperDriver.NONE;
    private static final String[] TEXTS = {"", "M", "MLK", "LK", "h", "0aa",
        "LLLLLLLLLLLLLLLLLLLLLLLK"};

    private final Check check;

    RefusedCases(Check check) {
        this.check = check;
    }

    void all() {
        check.by(Document.TERMS, "A call that answers false or NONE, or throws, changes nothing but"
            + " what is said");
        for (String text : TEXTS) {
            type(text);
            function(text);
            body(text);
            goal(text);
            input(text);
            look(text);
            run(text);
            withoutGoal(text);
            withoutTree(text);
            withoutInput(text);
            tooGreat(text);
        }
    }

    private static boolean isTerm(String text) {
        return missing(text) == 0;
    }

    /** How many terms are wanting until the text, one of those above, is a term. */
    private static int missing(String text) {
        int missing = 1;
        for (char letter : text.toCharArray()) {
            int parts = letter == 'M' || letter == '0' ? 2 : letter == 'L' ? 1 : 0;
            missing += parts - 1;
        }
        return missing;
    }

    // ---- the calls ----

    private void type(String text) {
        for (long part : new long[] {'i', Check.part("KKi"), 255L << 56 | 'K', -1, Long.MIN_VALUE}) {
            refused(text, "type(" + part + ")", x -> x.type(part) ? 1 : 0, 0);
        }
        if (text.length() == 24) {
            refused(text, "type(K)", x -> x.type('K') ? 1 : 0, 0);
            refused(text, "type(KKKKKKKK)", x -> x.type(Check.part("KKKKKKKK")) ? 1 : 0, 0);
        }
    }

    private void function(String text) {
        for (int f : new int[] {-1, 8, Integer.MAX_VALUE}) {
            refused(text, "function " + f, x -> Check.function(x, f, 1, true), Check.ARGUMENT);
        }
        for (int parts : new int[] {0, 4, Integer.MIN_VALUE}) {
            refused(text, "parts " + parts, x -> Check.function(x, 5, parts, true), Check.ARGUMENT);
        }
        for (int f : new int[] {0, 1, 2}) {
            for (int parts : new int[] {1, 2, 3}) {
                refused(text, "plain again", x -> Check.function(x, f, parts, false), Check.STATE);
                refused(text, "cased again", x -> Check.function(x, f, parts, true), Check.STATE);
            }
        }
    }

    private void body(String text) {
        for (int f : new int[] {-1, 8, 3, 7}) {
            for (int c : new int[] {-2, NONE, 0, 5, 6}) {
                refused(text, "body(" + f + ", " + c + ")", x -> Check.body(x, f, c), Check.STATE);
            }
        }
        for (int c : new int[] {-2, 0, 5, 6}) {
            refused(text, "body(1, " + c + ")", x -> Check.body(x, 1, c), Check.ARGUMENT);
        }
        for (int c : new int[] {-2, NONE, 6}) {
            refused(text, "body(0, " + c + ")", x -> Check.body(x, 0, c), Check.ARGUMENT);
        }
        if (!isTerm(text) || text.equals("h")) {
            refused(text, "body(1, NONE)", x -> Check.body(x, 1, NONE), Check.ARGUMENT);
            refused(text, "body(0, 2)", x -> Check.body(x, 0, 2), Check.ARGUMENT);
        }
    }

    private void goal(String text) {
        if (!isTerm(text)) {
            refused(text, "goal()", Check::goal, Check.ARGUMENT);
        }
    }

    private void input(String text) {
        for (int v : new int[] {-1, 8, Integer.MIN_VALUE, Integer.MAX_VALUE}) {
            refused(text, "input(" + v + ")", x -> x.input(v) ? 1 : 0, 0);
        }
        if (!isTerm(text) || text.startsWith("0") || text.equals("h")) {
            refused(text, "input(0)", x -> x.input(0) ? 1 : 0, 0);
            refused(text, "input(7)", x -> x.input(7) ? 1 : 0, 0);
        }
    }

    private void look(String text) {
        for (int n : new int[] {-1, 10, 48}) {
            refused(text, "node(" + n + ", 0)", x -> x.node(n, 0), NONE);
            refused(text, "term(" + n + ", 0)", x -> x.term(n, 0), NONE);
            refused(text, "residual(" + n + ", 0)", x -> x.residual(n, 0), NONE);
        }
        for (int i : new int[] {-2, 9, Integer.MAX_VALUE}) {
            refused(text, "node(0, " + i + ")", x -> x.node(0, i), NONE);
            refused(text, "term(0, " + i + ")", x -> x.term(0, i), NONE);
            refused(text, "residual(0, " + i + ")", x -> x.residual(0, i), NONE);
            refused(text, "result(" + i + ")", x -> x.result(i), NONE);
        }
    }

    private void run(String text) {
        for (int fuel : new int[] {0, -1, 501}) {
            refused(text, "run(false, " + fuel + ")", x -> Check.run(x, false, fuel), Check.ARGUMENT);
            refused(text, "run(true, " + fuel + ")", x -> Check.run(x, true, fuel), Check.ARGUMENT);
        }
    }

    // ---- objects ----

    /** Three functions, a goal, its tree, its inputs, and a run. */
    private SuperDriver prepared() {
        SuperDriver x = check.program("0/2/cased K=a M=Ma0bc", "1/1/plain La", "2/3/plain");
        check.driven(x, "00abc", 10);
        check.dueTrue("input", Check.input(x, 0, "MNMNK"));
        check.dueTrue("input", Check.input(x, 1, "MLKK"));
        check.dueTrue("input", Check.input(x, 2, "K"));
        check.runs(x, true, 500, 0, 5, "MNMNMLKK");
        return x;
    }

    private void refused(String text, String what, ToLongFunction<SuperDriver> call, long want) {
        changesNothing(what, text, this::prepared, call, want);
    }

    private void withoutGoal(String text) {
        Supplier<SuperDriver> maker = () -> check.program("0/2/cased K=a", "1/1/plain La");
        changesNothing("drive() without a goal", text, maker, Check::drive, Check.STATE);
        for (boolean driven : new boolean[] {false, true}) {
            changesNothing("run without a goal", text, maker, x -> Check.run(x, driven, 5), Check.STATE);
        }
    }

    private void withoutTree(String text) {
        Supplier<SuperDriver> maker = () -> {
            SuperDriver x = prepared();
            check.due("function", Check.function(x, 6, 1, true), Check.DONE);
            return x;
        };
        changesNothing("run without a tree", text, maker, x -> Check.run(x, true, 5), Check.STATE);
        changesNothing("node without a tree", text, maker, x -> x.node(0, 0), NONE);
    }

    private void withoutInput(String text) {
        Supplier<SuperDriver> maker = () -> {
            SuperDriver x = prepared();
            check.driven(x, "1h", 3);
            return x;
        };
        for (boolean driven : new boolean[] {false, true}) {
            changesNothing("run without input", text, maker, x -> Check.run(x, driven, 5), Check.STATE);
        }
    }

    /** There is no tree then, as there was none before; all else is as it was. */
    private void tooGreat(String text) {
        Supplier<SuperDriver> maker = () -> {
            SuperDriver x = prepared();
            check.due("function", Check.function(x, 6, 1, false), Check.DONE);
            check.due("body", Check.body(x, 6, NONE, "L6a"), Check.DONE);
            check.due("goal", Check.goal(x, "6a"), Check.DONE);
            return x;
        };
        changesNothing("a drive too great", text, maker, Check::drive, Check.UNSUPPORTED);
    }

    // ---- all that can be seen ----

    /** Each look is at an object of its own, for looking changes it. */
    private void changesNothing(String what, String text, Supplier<SuperDriver> maker,
            ToLongFunction<SuperDriver> call, long want) {
        looked(what, text, maker, call, want, RefusedCases::tree);
        looked(what, text, maker, call, want, RefusedCases::runs);
        looked(what, text, maker, call, want, RefusedCases::inputs);
        looked(what, text, maker, call, want, RefusedCases::functions);
        looked(what, text, maker, call, want, x -> text(x, text));
    }

    private void looked(String what, String text, Supplier<SuperDriver> maker,
            ToLongFunction<SuperDriver> call, long want, Function<SuperDriver, String> look) {
        SuperDriver x = maker.get();
        SuperDriver like = maker.get();
        check.dueTrue("text", Check.type(x, text) && Check.type(like, text));
        check.due(what + " with text " + text, call.applyAsLong(x), want);
        check.due("what is seen after " + what + " with text " + text, look.apply(x),
            look.apply(like));
    }

    private static String tree(SuperDriver x) {
        StringBuilder out = new StringBuilder();
        for (int n = 0; x.node(n, 0) != NONE; n++) {
            for (int w = 0; w < 4; w++) {
                out.append(x.node(n, w)).append(' ');
            }
            out.append(Check.term(x, n)).append(", ").append(Check.residual(x, n)).append('\n');
        }
        return out.toString();
    }

    /** The latest run, and what the goal and the tree do when they are run. */
    private static String runs(SuperDriver x) {
        StringBuilder out = new StringBuilder();
        out.append(Check.result(x)).append(' ').append(x.steps()).append('\n');
        for (boolean driven : new boolean[] {true, false}) {
            out.append(Check.run(x, driven, 20)).append(' ').append(Check.result(x)).append(' ');
            out.append(x.steps()).append('\n');
        }
        return out.append(Check.drive(x)).append('\n').append(tree(x)).toString();
    }

    private static String inputs(SuperDriver x) {
        StringBuilder out = new StringBuilder();
        x.wipe();
        for (int v = 0; v < 8; v++) {
            out.append(Check.goal(x, String.valueOf((char) ('a' + v)))).append(' ');
            out.append(Check.run(x, false, 1)).append(' ').append(Check.result(x)).append('\n');
        }
        return out.toString();
    }

    private static String functions(SuperDriver x) {
        StringBuilder out = new StringBuilder();
        x.wipe();
        for (int f = 0; f < 8; f++) {
            for (String parts : new String[] {"a", "ab", "abc"}) {
                long goal = Check.goal(x, f + parts);
                out.append(goal).append(' ');
                if (goal == Check.DONE) {
                    out.append(Check.drive(x)).append(' ').append(Check.kinds(x)).append('\n');
                }
                x.wipe();
            }
            out.append(Check.function(x, f, 1, false)).append('\n');
        }
        return out.toString();
    }

    /** The text is what the goal is when behind it those terms were typed that are wanting. */
    private static String text(SuperDriver x, String text) {
        StringBuilder out = new StringBuilder();
        out.append(Check.type(x, "N".repeat(missing(text)))).append(' ').append(Check.goal(x));
        return out.append(' ').append(Check.drive(x)).append(' ').append(Check.term(x, 0)).toString();
    }
}
