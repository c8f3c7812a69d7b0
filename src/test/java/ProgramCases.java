/** What the document says of functions, bodies, the goal and inputs: promises 5 to 8. */
final class ProgramCases {
    private static final int NONE = SuperDriver.NONE;
    private static final int[] ARITY = {0, 1, 2, 0, 1, 2};
    private static final String CONSTRUCTORS = "KLMNOP";
    private static final String VARIABLES = "abcdefgh";
    /** With functions 0 of two parts and none else, these are no terms. */
    private static final String[] NO_TERMS = {"KK", "L", "M", "P", "O", "Ma", "MaaK", "0a", "0aaa",
        "aa", "aK", "Ka", "KL", "LKK", "1K", "1", "L1a", "0", "M0aa", "0aM", "7a"};

    private final Check check;

    ProgramCases(Check check) {
        this.check = check;
    }

    void all() {
        everyFunction();
        withoutBodyOrClauses();
        functionTakesTheTree();
        noSuchFunction();
        noSuchParts();
        declaredBefore();
        variablesOfABody();
        bodyOfPlain();
        clauseForEachConstructor();
        bodyInPlace();
        bodyTakesTextAndTree();
        bodyWithoutFunction();
        noSuchClause();
        noSuchBody();
        goalIsTaken();
        goalTakesTextAndTree();
        noGoal();
        allBodiesAreKept();
        inputIsTaken();
        inputInPlace();
        inputTakesText();
        noValue();
        noSuchVariable();
    }

    // ---- promise 5 ----

    private void everyFunction() {
        check.by(Document.FUNCTION, "Function f is declared with so many parts, plain or cased");
        for (int f = 0; f < 8; f++) {
            for (int parts = 1; parts <= 3; parts++) {
                for (int cased = 0; cased < 2; cased++) {
                    SuperDriver x = new SuperDriver();
                    check.due("function " + f, Check.function(x, f, parts, cased == 1), Check.DONE);
                    String call = f + "abcd".substring(0, parts);
                    check.driven(x, call, 1);
                    check.kinds(x, cased == 1 ? "4" : "5");
                    check.due("a part less", Check.goal(x, call.substring(0, parts)), Check.ARGUMENT);
                    x.wipe();
                    check.due("a part more", Check.goal(x, call + "a"), Check.ARGUMENT);
                }
            }
        }
    }

    private void withoutBodyOrClauses() {
        check.by(Document.FUNCTION, "without a body or clauses");
        SuperDriver x = check.program("0/1/plain K", "1/1/cased K=K L=K M=K N=K O=K P=K");
        x.forget();
        check.due("function 0", Check.function(x, 0, 1, false), Check.DONE);
        check.due("function 1", Check.function(x, 1, 1, true), Check.DONE);
        check.driven(x, "0K", 1);
        check.kinds(x, "5");
        check.driven(x, "1a", 1);
        check.kinds(x, "4");
        for (String part : new String[] {"K", "LK", "MKK", "N", "OK", "PKK"}) {
            check.driven(x, "1" + part, 1);
            check.kinds(x, "5");
        }
    }

    private void functionTakesTheTree() {
        check.by(Document.FUNCTION, "there is no tree then");
        SuperDriver x = new SuperDriver();
        check.driven(x, "K", 1);
        check.due("function", Check.function(x, 3, 2, true), Check.DONE);
        check.dueFalse("the tree", Check.hasTree(x));
        check.due("term", x.term(0, NONE), NONE);
        check.due("residual term", x.residual(0, NONE), NONE);
        check.due("run(true, 1)", Check.run(x, true, 1), Check.STATE);
        check.runs(x, false, 1, 0, 0, "K");
        check.due("the goal is there", Check.drive(x), 1);
    }

    private void noSuchFunction() {
        check.by(Document.FUNCTION, "IllegalArgumentException if f is not 0 .. 7");
        SuperDriver x = new SuperDriver();
        check.driven(x, "K", 1);
        for (int f : new int[] {-1, 8, Integer.MIN_VALUE, Integer.MAX_VALUE}) {
            for (int parts = 0; parts <= 4; parts++) {
                check.due("function " + f, Check.function(x, f, parts, true), Check.ARGUMENT);
            }
        }
        for (int f = -450; f <= 450; f++) {
            boolean is = f >= 0 && f <= 7;
            long got = Check.function(new SuperDriver(), f, 1, false);
            check.due("function " + f, got, is ? Check.DONE : Check.ARGUMENT);
        }
        check.dueTrue("the tree", Check.hasTree(x));
        check.due("the first", Check.function(x, 0, 1, true), Check.DONE);
        check.due("the last", Check.function(x, 7, 1, true), Check.DONE);
    }

    private void noSuchParts() {
        check.by(Document.FUNCTION, "or parts not 1 .. 3");
        SuperDriver x = new SuperDriver();
        check.driven(x, "K", 1);
        for (int parts : new int[] {0, 4, -1, 5, 8, 257, -255, Integer.MIN_VALUE, Integer.MAX_VALUE}) {
            for (int f = 0; f < 8; f++) {
                check.due("parts " + parts, Check.function(x, f, parts, true), Check.ARGUMENT);
                check.due("parts " + parts, Check.function(x, f, parts, false), Check.ARGUMENT);
            }
        }
        check.dueTrue("the tree", Check.hasTree(x));
        for (int f = 0; f < 8; f++) {
            check.due("it is not declared", Check.body(x, f, NONE, "K"), Check.STATE);
            x.wipe();
            check.due("it can be", Check.function(x, f, f % 2 == 0 ? 1 : 3, true), Check.DONE);
            check.due("now too", Check.function(x, f, 0, true), Check.ARGUMENT);
        }
    }

    private void declaredBefore() {
        check.by(Document.FUNCTION, "IllegalStateException if it is declared");
        for (int f = 0; f < 8; f++) {
            SuperDriver x = new SuperDriver();
            check.due("function", Check.function(x, f, 2, f % 2 == 0), Check.DONE);
            int c = f % 2 == 0 ? 0 : NONE;
            check.due("body", Check.body(x, f, c, "LN"), Check.DONE);
            check.driven(x, f + "KK", 3);
            for (int parts = 1; parts <= 3; parts++) {
                check.due("plain again", Check.function(x, f, parts, false), Check.STATE);
                check.due("cased again", Check.function(x, f, parts, true), Check.STATE);
            }
            check.kinds(x, "321");
            check.runs(x, true, 1, 0, 0, "LN");
            check.driven(x, f + "KK", 3);
            check.due("parts", Check.goal(x, f + "K"), Check.ARGUMENT);
        }
    }

    // ---- promise 6 ----

    private void variablesOfABody() {
        check.by(Document.BODY, "a term with no variables but those that its body may have");
        for (int parts = 1; parts <= 3; parts++) {
            SuperDriver x = check.program("0/" + parts + "/plain", "1/" + parts + "/cased");
            variablesUpTo(x, 0, NONE, parts);
            for (int c = 0; c < 6; c++) {
                variablesUpTo(x, 1, c, ARITY[c] + parts - 1);
            }
        }
    }

    private void variablesUpTo(SuperDriver x, int f, int c, int count) {
        for (int v = 0; v < 8; v++) {
            String what = "function " + f + ", " + c + ", variable " + v;
            long want = v < count ? Check.DONE : Check.ARGUMENT;
            check.due(what, Check.body(x, f, c, VARIABLES.substring(v, v + 1)), want);
            x.wipe();
            check.due(what, Check.body(x, f, c, "MLK" + VARIABLES.charAt(v)), want);
            x.wipe();
        }
    }

    private void bodyOfPlain() {
        check.by(Document.BODY, "becomes the body of plain function f (c is NONE)");
        for (int f = 0; f < 8; f++) {
            SuperDriver x = check.program(f + "/3/plain McMba");
            check.due("goal", Check.goal(x, f + "KNLK"), Check.DONE);
            check.runs(x, false, 1, 0, 1, "MLKMNK");
        }
    }

    private void clauseForEachConstructor() {
        check.by(Document.BODY,
            "or that of cased function f's clause for constructor c (0 .. 5, K .. P)");
        String[] calls = {"0K", "0LN", "0MNK", "0N", "0ON", "0PNK"};
        for (int c = 0; c < 6; c++) {
            SuperDriver x = check.program("0/1/cased " + CONSTRUCTORS.charAt(c) + "=OLN");
            for (int other = 0; other < 6; other++) {
                check.due("goal", Check.goal(x, calls[other]), Check.DONE);
                if (other == c) {
                    check.runs(x, false, 1, 0, 1, "OLN");
                } else {
                    check.runs(x, false, 1, 1, 0, "");
                }
            }
        }
    }

    private void bodyInPlace() {
        check.by(Document.BODY, "in place of one that there was");
        SuperDriver x = check.program("0/1/cased M=a P=b", "1/1/plain LLLLa");
        check.due("goal", Check.goal(x, "0MLKN"), Check.DONE);
        check.runs(x, false, 5, 0, 1, "LK");
        check.due("another clause", Check.body(x, 0, 2, "b"), Check.DONE);
        check.runs(x, false, 5, 0, 1, "N");
        check.due("goal", Check.goal(x, "0PLKN"), Check.DONE);
        check.runs(x, false, 5, 0, 1, "N");
        check.due("goal", Check.goal(x, "1N"), Check.DONE);
        check.runs(x, false, 5, 0, 1, "LLLLN");
        check.due("a shorter body", Check.body(x, 1, NONE, "a"), Check.DONE);
        check.runs(x, false, 5, 0, 1, "N");
        check.due("a longer body", Check.body(x, 1, NONE, "OOOa"), Check.DONE);
        check.runs(x, false, 5, 0, 1, "OOON");
    }

    /** As many functions and clauses as there can be, each with a body of its own. */
    private void allBodiesAreKept() {
        check.by(Document.BODY, "becomes the body of");
        SuperDriver x = new SuperDriver();
        for (int f = 0; f < 8; f++) {
            check.due("function", Check.function(x, f, 1, true), Check.DONE);
        }
        for (int k = 0; k < 48; k++) {
            check.due("body", Check.body(x, k / 6, k % 6, bodyOf(k)), Check.DONE);
        }
        String[] calls = {"K", "LK", "MKK", "N", "OK", "PKK"};
        for (int k = 47; k >= 0; k--) {
            check.due("goal", Check.goal(x, k / 6 + calls[k % 6]), Check.DONE);
            check.due("run", Check.run(x, false, 1), 0);
            check.due("how many", x.result(NONE), bodyOf(k).length());
            check.due("the place of O", x.result(k / 6), bodyOf(k).charAt(k / 6) - 'K');
        }
    }

    private static String bodyOf(int k) {
        return "L".repeat(k / 6) + "O".repeat(1 + k % 6) + "K";
    }

    private void bodyTakesTextAndTree() {
        check.by(Document.BODY, "the text is empty and there is no tree then");
        SuperDriver x = check.program("0/1/plain", "1/1/cased");
        for (int f = 0; f < 2; f++) {
            int c = f == 0 ? NONE : 5;
            check.driven(x, "K", 1);
            check.due("body", Check.body(x, f, c, "LLK"), Check.DONE);
            check.dueFalse("the tree", Check.hasTree(x));
            check.due("run(true, 1)", Check.run(x, true, 1), Check.STATE);
            check.due("no text", Check.body(x, f, c), Check.ARGUMENT);
            check.dueTrue("24 letters have room", Check.type(x, "LLLLLLLLLLLLLLLLLLLLLLLK"));
            check.due("a body of 24 letters", Check.body(x, f, c), Check.DONE);
            check.due("the goal is there", Check.drive(x), 1);
        }
    }

    private void bodyWithoutFunction() {
        check.by(Document.BODY,
            "IllegalStateException if f is not declared (also if it is no function's number)");
        SuperDriver x = check.program("3/1/plain");
        check.driven(x, "K", 1);
        Check.type(x, "LK");
        for (int f : new int[] {0, 2, 4, 7, -1, 8, Integer.MIN_VALUE, Integer.MAX_VALUE}) {
            for (int c = -2; c < 7; c++) {
                check.due("body(" + f + ", " + c + ")", Check.body(x, f, c), Check.STATE);
            }
        }
        for (int f = -450; f <= 450; f++) {
            SuperDriver y = check.program("3/1/plain");
            check.due("body of " + f, Check.body(y, f, NONE, "K"), f == 3 ? Check.DONE : Check.STATE);
        }
        check.dueTrue("the tree", Check.hasTree(x));
        check.due("the text is there", Check.body(x, 3, NONE), Check.DONE);
        check.driven(x, "3K", 3);
        check.due("also without a text", Check.body(x, 4, NONE), Check.STATE);
    }

    private void noSuchClause() {
        check.by(Document.BODY, "IllegalArgumentException if c or the text is not so");
        SuperDriver x = check.program("0/1/plain", "1/1/cased");
        check.driven(x, "K", 1);
        Check.type(x, "LK");
        for (int c : new int[] {0, 1, 2, 3, 4, 5, -2, 6, Integer.MIN_VALUE, Integer.MAX_VALUE}) {
            check.due("of a plain one " + c, Check.body(x, 0, c), Check.ARGUMENT);
        }
        for (int c : new int[] {NONE, -2, 6, 100, 105, Integer.MIN_VALUE, Integer.MAX_VALUE}) {
            check.due("of a cased one " + c, Check.body(x, 1, c), Check.ARGUMENT);
        }
        check.dueTrue("the tree", Check.hasTree(x));
        check.due("the text is there", Check.body(x, 0, NONE), Check.DONE);
        check.driven(x, "1a", 1);
        check.driven(x, "0K", 3);
        check.due("the first", Check.body(x, 1, 0, "K"), Check.DONE);
        check.due("the last", Check.body(x, 1, 5, "K"), Check.DONE);
    }

    private void noSuchBody() {
        check.by(Document.BODY, "IllegalArgumentException if c or the text is not so");
        SuperDriver x = check.program("0/2/plain a");
        check.driven(x, "0NK", 2);
        check.due("no text", Check.body(x, 0, NONE), Check.ARGUMENT);
        for (String text : NO_TERMS) {
            check.due("body " + text, Check.body(x, 0, NONE, text), Check.ARGUMENT);
            x.wipe();
        }
        check.due("a variable too many", Check.body(x, 0, NONE, "Mac"), Check.ARGUMENT);
        x.wipe();
        check.kinds(x, "31");
        check.runs(x, false, 5, 0, 1, "N");
        check.due("a part wanting", Check.body(x, 0, NONE, "Ma"), Check.ARGUMENT);
        check.due("is typed", Check.body(x, 0, NONE, "b"), Check.DONE);
        check.runs(x, false, 5, 0, 1, "MNK");
        check.due("of itself", Check.body(x, 0, NONE, "0ba"), Check.DONE);
    }

    // ---- promise 7 ----

    private void goalIsTaken() {
        check.by(Document.GOAL, "The text, a term, becomes the GOAL");
        SuperDriver x = check.program("2/2/cased");
        check.driven(x, "M2gha", 3);
        check.terms(x, "M f2 g h a");
        check.driven(x, "K", 1);
        check.terms(x, "K");
        check.driven(x, "LLLLLLLLLLLLLLLLLLLLLLLh", 24);
        check.due("24 signs", x.term(0, NONE), 24);
        check.driven(x, "MaMbMcMdMeMfMgh", 15);
        check.terms(x, "M a M b M c M d M e M f M g h");
    }

    private void goalTakesTextAndTree() {
        check.by(Document.GOAL, "the text is empty and there is no tree then");
        SuperDriver x = new SuperDriver();
        check.driven(x, "K", 1);
        check.due("the same goal", Check.goal(x, "K"), Check.DONE);
        check.dueFalse("the tree", Check.hasTree(x));
        check.due("term", x.term(0, NONE), NONE);
        check.due("residual term", x.residual(0, NONE), NONE);
        check.due("run(true, 1)", Check.run(x, true, 1), Check.STATE);
        check.due("no text", Check.goal(x), Check.ARGUMENT);
        check.driven(x, "LLLLLLLLLLLLLLLLLLLLLLLK", 24);
    }

    private void noGoal() {
        check.by(Document.GOAL, "IllegalArgumentException if it is no term");
        SuperDriver x = check.program("0/2/cased");
        check.due("no text", Check.goal(x), Check.ARGUMENT);
        check.driven(x, "LN", 2);
        for (String text : NO_TERMS) {
            check.due("goal " + text, Check.goal(x, text), Check.ARGUMENT);
            check.kinds(x, "21");
            x.wipe();
        }
        check.runs(x, true, 1, 0, 0, "LN");
        check.runs(x, false, 1, 0, 0, "LN");
        check.due("a part wanting", Check.goal(x, "M0ab"), Check.ARGUMENT);
        check.due("is typed", Check.goal(x, "K"), Check.DONE);
        check.due("drive()", Check.drive(x), 3);
        check.terms(x, "M f0 a b K");
    }

    // ---- promise 8 ----

    private void inputIsTaken() {
        check.by(Document.INPUT, "The text, a VALUE, becomes the INPUT for variable v, 0 .. 7");
        SuperDriver x = new SuperDriver();
        check.due("goal", Check.goal(x, "MaMbMcMdMeMfMgh"), Check.DONE);
        String[] values = {"K", "N", "LK", "ON", "MKN", "PNK", "LOLON", "MPKKK"};
        StringBuilder all = new StringBuilder();
        for (int v = 0; v < 8; v++) {
            check.due("one is wanting", Check.run(x, false, 1), Check.STATE);
            check.dueTrue("input(" + v + ")", Check.input(x, v, values[v]));
            all.append(v < 7 ? "M" : "").append(values[v]);
        }
        check.runs(x, false, 1, 0, 0, all.toString());
    }

    private void inputInPlace() {
        check.by(Document.INPUT, "in place of one that there was");
        SuperDriver x = new SuperDriver();
        check.driven(x, "Mah", 3);
        check.dueTrue("input(0)", Check.input(x, 0, "LLK"));
        check.dueTrue("input(7)", Check.input(x, 7, "N"));
        check.runs(x, false, 1, 0, 0, "MLLKN");
        check.dueTrue("a shorter one", Check.input(x, 0, "K"));
        check.runs(x, false, 1, 0, 0, "MKN");
        check.dueTrue("a longer one", Check.input(x, 7, "OOON"));
        check.runs(x, true, 1, 0, 0, "MKOOON");
    }

    private void inputTakesText() {
        check.by(Document.INPUT, "the text is empty then: true");
        SuperDriver x = new SuperDriver();
        check.driven(x, "a", 1);
        check.dueTrue("24 letters", Check.input(x, 0, "LLLLLLLLLLLLLLLLLLLLLLLK"));
        check.dueFalse("no text", x.input(1));
        check.dueTrue("the tree is there", Check.hasTree(x));
        check.runs(x, true, 1, 0, 0, "LLLLLLLLLLLLLLLLLLLLLLLK");
        check.dueTrue("24 letters have room", Check.type(x, "LLLLLLLLLLLLLLLLLLLLLLLN"));
        check.dueTrue("input(0)", x.input(0));
        check.runs(x, true, 1, 0, 0, "LLLLLLLLLLLLLLLLLLLLLLLN");
    }

    private void noValue() {
        check.by(Document.INPUT, "false if it is none");
        SuperDriver x = check.program("0/2/plain K", "2/1/cased");
        check.dueTrue("a value", Check.input(x, 0, "N"));
        check.driven(x, "a", 1);
        check.dueFalse("no text", x.input(0));
        for (String text : NO_TERMS) {
            check.dueFalse("input " + text, Check.input(x, 0, text));
            x.wipe();
        }
        for (String text : new String[] {"a", "h", "La", "MKb", "0KK", "L0KK", "2K", "P2KN"}) {
            check.dueFalse("input " + text, Check.input(x, 0, text));
            x.wipe();
        }
        check.runs(x, true, 1, 0, 0, "N");
        check.dueFalse("a part wanting", Check.input(x, 0, "MK"));
        check.dueTrue("is typed", Check.input(x, 0, "N"));
        check.runs(x, true, 1, 0, 0, "MKN");
    }

    private void noSuchVariable() {
        check.by(Document.INPUT, "or v is not so");
        SuperDriver x = new SuperDriver();
        check.driven(x, "Mah", 3);
        Check.type(x, "LK");
        for (int v : new int[] {-1, 8, -2, 9, 99, 100, Integer.MIN_VALUE, Integer.MAX_VALUE}) {
            check.dueFalse("input(" + v + ")", x.input(v));
        }
        check.due("no input", Check.run(x, false, 1), Check.STATE);
        check.dueTrue("the text is there", x.input(7));
        check.due("one is wanting", Check.run(x, false, 1), Check.STATE);
        check.dueTrue("input(0)", Check.input(x, 0, "N"));
        check.runs(x, false, 1, 0, 0, "MNLK");
    }
}
