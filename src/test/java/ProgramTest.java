/** Promises 5 to 8: function, body, goal, input. */
public final class ProgramTest {
    private static final int NONE = SuperDriver.NONE;
    private static final Check check = new Check("ProgramTest");

    public static void main(String[] args) {
        functionNumbersAndParts();
        functionTakesTheTree();
        bodyAsksForAFunction();
        bodyAsksForItsClause();
        bodyAsksForItsVariables();
        bodyReplaces();
        goalAsksForATerm();
        goalReplaces();
        inputAsksForAValue();
        inputReplaces();
        check.end();
    }

    /** An object with a tree of one node. */
    private static SuperDriver driven() {
        SuperDriver x = new SuperDriver();
        Check.goal(x, "K");
        check.due("drive()", Check.drive(x), 1);
        return x;
    }

    private static void hasTree(String what, SuperDriver x, boolean is) {
        check.due(what + ": the tree", x.node(0, 0) != NONE ? 1 : 0, is ? 1 : 0);
    }

    private static void functionNumbersAndParts() {
        SuperDriver x = driven();
        int[] noFunctions = {-1, 8, Integer.MIN_VALUE, Integer.MAX_VALUE};
        for (int f : noFunctions) {
            check.due("function " + f, Check.function(x, f, 1, true), Check.ARGUMENT);
        }
        int[] noParts = {0, 4, -1, Integer.MIN_VALUE, Integer.MAX_VALUE};
        for (int parts : noParts) {
            check.due("parts " + parts, Check.function(x, 0, parts, false), Check.ARGUMENT);
        }
        hasTree("refused", x, true);
        check.due("first", Check.function(x, 0, 1, false), Check.DONE);
        check.due("last", Check.function(x, 7, 3, true), Check.DONE);
        check.due("again", Check.function(x, 7, 3, true), Check.STATE);
        check.due("again otherwise", Check.function(x, 0, 2, true), Check.STATE);
        check.due("wrong parts come before", Check.function(x, 0, 4, true), Check.ARGUMENT);
        check.due("0 has one part", Check.goal(x, "0K"), Check.DONE);
        check.due("7 has three", Check.goal(x, "7KKK"), Check.DONE);
        check.due("not two", Check.goal(x, "7KK"), Check.ARGUMENT);
    }

    private static void functionTakesTheTree() {
        SuperDriver x = driven();
        Check.type(x, "LK");
        check.due("function", Check.function(x, 3, 2, true), Check.DONE);
        hasTree("declared", x, false);
        check.due("the text stays", Check.goal(x), Check.DONE);
        Check.drive(x);
        check.due("declared before", Check.function(x, 3, 2, true), Check.STATE);
        hasTree("refused", x, true);
        check.due("function", Check.function(x, 4, 2, true), Check.DONE);
        check.due("the goal stays", Check.drive(x), 2);
    }

    private static void bodyAsksForAFunction() {
        SuperDriver x = driven();
        Check.type(x, "K");
        int[] none = {-1, 0, 7, 8, Integer.MIN_VALUE, Integer.MAX_VALUE};
        for (int f : none) {
            check.due("body of " + f, Check.body(x, f, NONE), Check.STATE);
            check.due("and no such clause", Check.body(x, f, 17), Check.STATE);
        }
        hasTree("refused", x, true);
        check.due("the text stays", Check.goal(x), Check.DONE);
    }

    private static void bodyAsksForItsClause() {
        SuperDriver x = new SuperDriver();
        Check.function(x, 0, 1, false);
        Check.function(x, 1, 1, true);
        Check.goal(x, "K");
        Check.drive(x);
        Check.type(x, "K");
        int[] notPlain = {0, 5, -2, 6, Integer.MIN_VALUE, Integer.MAX_VALUE};
        for (int c : notPlain) {
            check.due("plain, " + c, Check.body(x, 0, c), Check.ARGUMENT);
        }
        int[] notCased = {NONE, -2, 6, Integer.MIN_VALUE, Integer.MAX_VALUE};
        for (int c : notCased) {
            check.due("cased, " + c, Check.body(x, 1, c), Check.ARGUMENT);
        }
        hasTree("refused", x, true);
        check.due("plain", Check.body(x, 0, NONE), Check.DONE);
        hasTree("taken", x, false);
        check.due("the text is empty", Check.body(x, 0, NONE), Check.ARGUMENT);
        for (int c = 0; c < 6; c++) {
            check.due("cased, " + c, Check.body(x, 1, c, "K"), Check.DONE);
        }
    }

    private static void bodyAsksForItsVariables() {
        int[] arity = {0, 1, 2, 0, 1, 2};
        for (int parts = 1; parts <= 3; parts++) {
            SuperDriver x = new SuperDriver();
            Check.function(x, 0, parts, false);
            Check.function(x, 1, parts, true);
            variablesOf(x, 0, NONE, parts);
            for (int c = 0; c < 6; c++) {
                variablesOf(x, 1, c, arity[c] + parts - 1);
            }
        }
        SuperDriver x = new SuperDriver();
        Check.function(x, 0, 2, false);
        String[] wrong = {"", "ab", "Ma", "0a", "1a", "Mab" + "K", "L", "0aaa", "M0abc"};
        for (String text : wrong) {
            check.due("body " + text, Check.body(x, 0, NONE, text), Check.ARGUMENT);
            check.dueTrue("the text stays", Check.type(x, "LLLLLLLLLLLLLLLL"));
            check.due("so long", x.type(Check.part("LLLLLLLL")) ? 1 : 0, text.isEmpty() ? 1 : 0);
            x.wipe();
        }
        check.due("its own name is fine", Check.body(x, 0, NONE, "M0ab0ba"), Check.DONE);
    }

    private static void variablesOf(SuperDriver x, int f, int c, int count) {
        for (int v = 0; v < 8; v++) {
            String what = "function " + f + " clause " + c + " variable " + v;
            long due = v < count ? Check.DONE : Check.ARGUMENT;
            check.due(what, Check.body(x, f, c, "MK" + (char) ('a' + v)), due);
            x.wipe();
        }
    }

    private static void bodyReplaces() {
        SuperDriver x = new SuperDriver();
        Check.function(x, 0, 1, true);
        Check.body(x, 0, 2, "a");
        Check.body(x, 0, 5, "b");
        Check.goal(x, "0MLKN");
        check.due("run", Check.run(x, false, 5), 0);
        check.due("result", Check.result(x), "LK");
        check.due("body", Check.body(x, 0, 2, "b"), Check.DONE);
        check.due("run", Check.run(x, false, 5), 0);
        check.due("result", Check.result(x), "N");
        Check.goal(x, "0PLKN");
        check.due("run", Check.run(x, false, 5), 0);
        check.due("the other clause is as it was", Check.result(x), "N");
    }

    private static void goalAsksForATerm() {
        SuperDriver x = new SuperDriver();
        Check.function(x, 2, 2, true);
        Check.goal(x, "K");
        Check.drive(x);
        String[] wrong = {"", "KK", "L", "M", "Ma", "Mabc", "2a", "2abc", "3a", "M2aa", "ab", "LKK",
            "KL", "aMK", "3", "L3", "3KL"};
        for (String text : wrong) {
            check.due("goal " + text, Check.goal(x, text), Check.ARGUMENT);
            hasTree("refused", x, true);
            x.wipe();
        }
        Check.goal(x, "M");
        check.due("the text stays", Check.goal(x, "2gh"), Check.ARGUMENT);
        check.due("and is gone on with", Check.goal(x, "a"), Check.DONE);
        hasTree("taken", x, false);
        check.due("drive()", Check.drive(x), 3);
        check.due("term 0", Check.term(x, 0), "M f2 g h a");
        check.due("the text is empty", Check.goal(x), Check.ARGUMENT);
    }

    private static void goalReplaces() {
        SuperDriver x = driven();
        check.due("goal", Check.goal(x, "LN"), Check.DONE);
        hasTree("taken", x, false);
        check.due("no tree, no run", Check.run(x, true, 5), Check.STATE);
        check.due("drive()", Check.drive(x), 2);
        check.due("term 0", Check.term(x, 0), "L N");
    }

    private static void inputAsksForAValue() {
        SuperDriver x = driven();
        Check.function(x, 0, 1, false);
        Check.body(x, 0, NONE, "a");
        Check.goal(x, "0a");
        Check.drive(x);
        String[] wrong = {"", "a", "La", "0K", "L0K", "MK", "KK", "M", "1K"};
        for (String text : wrong) {
            check.dueFalse("input " + text, Check.input(x, 0, text));
            x.wipe();
        }
        check.due("none is there", Check.run(x, false, 5), Check.STATE);
        Check.type(x, "PKMNOLK");
        int[] none = {-1, 8, Integer.MIN_VALUE, Integer.MAX_VALUE};
        for (int v : none) {
            check.dueFalse("input for " + v, x.input(v));
        }
        check.dueTrue("the text stays", x.input(0));
        check.dueFalse("the text is empty", x.input(1));
        hasTree("input", x, true);
        check.due("run", Check.run(x, true, 5), 0);
        check.due("result", Check.result(x), "PKMNOLK");
    }

    private static void inputReplaces() {
        SuperDriver x = new SuperDriver();
        Check.goal(x, "MaMbMcMdMeMfMgh");
        for (int v = 0; v < 8; v++) {
            check.due("one is wanting", Check.run(x, false, 1), Check.STATE);
            check.dueTrue("input", Check.input(x, v, v % 2 == 0 ? "N" : "LK"));
        }
        check.due("run", Check.run(x, false, 1), 0);
        check.due("result", Check.result(x), "MNMLKMNMLKMNMLKMNLK");
        check.dueTrue("input", Check.input(x, 7, "ON"));
        check.due("run", Check.run(x, false, 1), 0);
        check.due("result", Check.result(x), "MNMLKMNMLKMNMLKMNON");
        check.dueFalse("refused", Check.input(x, 7, "OON0"));
        check.due("run", Check.run(x, false, 1), 0);
        check.due("as it was", Check.result(x), "MNMLKMNMLKMNMLKMNON");
    }
}
