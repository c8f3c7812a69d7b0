import java.util.function.ToLongFunction;

/**
 * What the document says of calls that are refused: after each of them an object is looked at in
 * every way, beside one that was made like it and did not have that call.
 */
final class RefusedCases {
    private static final int NONE = SuperDriver.NONE;

    private final Check check;

    RefusedCases(Check check) {
        this.check = check;
    }

    void all() {
        check.by(Document.TERMS, "A call that answers false or NONE, or throws, changes nothing but"
            + " what is said");
        for (String text : new String[] {"", "M", "MLK", "LK", "h", "0aa", "LLLLLLLLLLLLLLLLLLLLLLLK"}) {
            type(text);
            function(text);
            body(text);
            goal(text);
            input(text);
            look(text);
            run(text);
        }
        withoutGoal();
        withoutTree();
        tooGreat();
    }

    private void type(String text) {
        for (long part : new long[] {'i', Check.part("KKi"), 255L << 56 | 'K', -1, Long.MIN_VALUE}) {
            refused(text, "type(" + part + ")", x -> x.type(part) ? 1 : 0, 0);
        }
        if (text.length() == 24) {
            refused(text, "type(K)", x -> x.type('K') ? 1 : 0, 0);
            refused(text, "type(KKKKKKKK)", x -> x.type(Check.part("KKKKKKKK")) ? 1 : 0, 0);
        }
    }

    private void function(String text) {
        for (int f : new int[] {-1, 8, Integer.MAX_VALUE}) {
            refused(text, "function " + f, x -> Check.function(x, f, 1, true), Check.ARGUMENT);
        }
        for (int parts : new int[] {0, 4, Integer.MIN_VALUE}) {
            refused(text, "parts " + parts, x -> Check.function(x, 5, parts, true), Check.ARGUMENT);
        }
        for (int f = 0; f < 3; f++) {
            int same = f;
            for (int parts = 1; parts <= 3; parts++) {
                int some = parts;
                refused(text, "function again", x -> Check.function(x, same, some, true), Check.STATE);
                refused(text, "function again", x -> Check.function(x, same, some, false), Check.STATE);
            }
        }
    }

    private void body(String text) {
        for (int f : new int[] {-1, 8, 3, 7}) {
            for (int c = -2; c < 7; c++) {
                int some = c;
                refused(text, "body(" + f + ", " + c + ")", x -> Check.body(x, f, some), Check.STATE);
            }
        }
        for (int c : new int[] {-2, 0, 5, 6}) {
            refused(text, "body(1, " + c + ")", x -> Check.body(x, 1, c), Check.ARGUMENT);
        }
        for (int c : new int[] {-2, NONE, 6}) {
            refused(text, "body(0, " + c + ")", x -> Check.body(x, 0, c), Check.ARGUMENT);
        }
        if (text.isEmpty() || text.startsWith("M") || text.equals("h")) {
            refused(text, "body(1, NONE)", x -> Check.body(x, 1, NONE), Check.ARGUMENT);
            refused(text, "body(0, 2)", x -> Check.body(x, 0, 2), Check.ARGUMENT);
        }
    }

    private void goal(String text) {
        if (text.isEmpty() || text.startsWith("M")) {
            refused(text, "goal()", Check::goal, Check.ARGUMENT);
        }
    }

    private void input(String text) {
        for (int v : new int[] {-1, 8, Integer.MIN_VALUE, Integer.MAX_VALUE}) {
            refused(text, "input(" + v + ")", x -> x.input(v) ? 1 : 0, 0);
        }
        if (text.isEmpty() || text.startsWith("M") || text.startsWith("0") || text.equals("h")) {
            refused(text, "input(0)", x -> x.input(0) ? 1 : 0, 0);
            refused(text, "input(7)", x -> x.input(7) ? 1 : 0, 0);
        }
    }

    private void look(String text) {
        for (int n : new int[] {-1, 10, 48}) {
            refused(text, "node(" + n + ", 0)", x -> x.node(n, 0), NONE);
            refused(text, "term(" + n + ", 0)", x -> x.term(n, 0), NONE);
            refused(text, "residual(" + n + ", 0)", x -> x.residual(n, 0), NONE);
        }
        for (int i : new int[] {-2, 9, Integer.MAX_VALUE}) {
            refused(text, "node(0, " + i + ")", x -> x.node(0, i), NONE);
            refused(text, "term(0, " + i + ")", x -> x.term(0, i), NONE);
            refused(text, "residual(0, " + i + ")", x -> x.residual(0, i), NONE);
            refused(text, "result(" + i + ")", x -> x.result(i), NONE);
        }
    }

    private void run(String text) {
        for (int fuel : new int[] {0, -1, 501}) {
            refused(text, "run(false, " + fuel + ")", x -> Check.run(x, false, fuel), Check.ARGUMENT);
            refused(text, "run(true, " + fuel + ")", x -> Check.run(x, true, fuel), Check.ARGUMENT);
        }
    }

    // ---- objects ----

    /** Three functions, a goal, its tree, its inputs, a run, and a text. */
    private SuperDriver prepared(String text) {
        SuperDriver x = check.program("0/2/cased K=a M=Ma0bc", "1/1/plain La", "2/3/plain");
        check.driven(x, "00abc", 10);
        check.dueTrue("input", Check.input(x, 0, "MNMNK"));
        check.dueTrue("input", Check.input(x, 1, "MLKK"));
        check.dueTrue("input", Check.input(x, 2, "K"));
        check.runs(x, true, 500, 0, 5, "MNMNMLKK");
        check.dueTrue("text", Check.type(x, text));
        return x;
    }

    private void refused(String text, String what, ToLongFunction<SuperDriver> call, long want) {
        changesNothing(what + " with text " + text, prepared(text), prepared(text), call, want);
    }

    private void changesNothing(String what, SuperDriver x, SuperDriver like,
            ToLongFunction<SuperDriver> call, long want) {
        check.due(what, call.applyAsLong(x), want);
        check.due("all that is seen after " + what, seen(x), seen(like));
    }

    private void withoutGoal() {
        for (String text : new String[] {"", "LK"}) {
            for (int kind = 0; kind < 3; kind++) {
                int some = kind;
                ToLongFunction<SuperDriver> call = x ->
                    some == 0 ? Check.drive(x) : Check.run(x, some == 1, 5);
                SuperDriver x = check.program("1/1/plain La");
                SuperDriver like = check.program("1/1/plain La");
                check.dueTrue("text", Check.type(x, text) && Check.type(like, text));
                changesNothing("without a goal, " + kind, x, like, call, Check.STATE);
            }
        }
    }

    private void withoutTree() {
        SuperDriver[] both = new SuperDriver[2];
        for (int k = 0; k < 2; k++) {
            both[k] = prepared("LK");
            check.due("function", Check.function(both[k], 6, 1, true), Check.DONE);
        }
        changesNothing("run(true, 5) without a tree", both[0], both[1],
            x -> Check.run(x, true, 5), Check.STATE);
        for (int driven = 0; driven < 2; driven++) {
            boolean is = driven == 1;
            for (int k = 0; k < 2; k++) {
                both[k] = prepared("");
                check.driven(both[k], "1h", 3);
            }
            changesNothing("without an input", both[0], both[1],
                x -> Check.run(x, is, 5), Check.STATE);
        }
    }

    /** There is no tree then, as there was none before; all else is as it was. */
    private void tooGreat() {
        SuperDriver[] both = new SuperDriver[2];
        for (int k = 0; k < 2; k++) {
            both[k] = prepared("LK");
            check.due("function", Check.function(both[k], 6, 1, false), Check.DONE);
            both[k].wipe();
            check.due("body", Check.body(both[k], 6, NONE, "L6a"), Check.DONE);
            check.due("goal", Check.goal(both[k], "6a"), Check.DONE);
            check.dueTrue("text", Check.type(both[k], "LK"));
        }
        changesNothing("drive()", both[0], both[1], Check::drive, Check.UNSUPPORTED);
    }

    // ---- all that can be seen ----

    private static String seen(SuperDriver x) {
        StringBuilder out = new StringBuilder();
        out.append(Check.result(x)).append(' ').append(x.steps()).append('\n');
        seeTree(x, out);
        for (int driven = 1; driven >= 0; driven--) {
            out.append(Check.run(x, driven == 1, 20)).append(Check.result(x)).append(x.steps());
            out.append('\n');
        }
        seeText(x, out);
        x.wipe();
        for (int v = 0; v < 8; v++) {
            out.append(Check.goal(x, String.valueOf((char) ('a' + v))));
            out.append(Check.run(x, false, 1)).append(Check.result(x)).append('\n');
        }
        for (int f = 0; f < 8; f++) {
            out.append(Check.function(x, f, 1, false)).append(' ');
            for (String parts : new String[] {"a", "ab", "abc"}) {
                out.append(Check.goal(x, f + parts)).append(Check.drive(x));
                x.wipe();
                seeTree(x, out);
            }
        }
        return out.toString();
    }

    private static void seeTree(SuperDriver x, StringBuilder out) {
        for (int n = 0; x.node(n, 0) != NONE; n++) {
            for (int w = 0; w < 4; w++) {
                out.append(x.node(n, w)).append(' ');
            }
            out.append(Check.term(x, n)).append(", ").append(Check.residual(x, n)).append('\n');
        }
    }

    /** The text is what the goal is when as many letters were typed behind it as it takes. */
    private static void seeText(SuperDriver x, StringBuilder out) {
        for (int more = 0; more < 4; more++) {
            long answer = Check.goal(x);
            out.append(answer).append(' ');
            if (answer == Check.DONE) {
                out.append(Check.drive(x)).append(' ').append(Check.term(x, 0)).append('\n');
                return;
            }
            out.append(x.type('N')).append(' ');
        }
    }
}
