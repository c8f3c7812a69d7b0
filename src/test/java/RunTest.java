/** Promises 13 to 15: run, result, steps. */
public final class RunTest {
    private static final int NONE = SuperDriver.NONE;
    private static final Check check = new Check("RunTest");

    public static void main(String[] args) {
        appendTwice();
        reverse();
        wrongCalls();
        rowsUpTo200();
        growingRows();
        whatEndsFirst();
        stuck();
        lazy();
        theLatestRun();
        functionsOfSteps();
        check.end();
    }

    private static void runs(SuperDriver x, boolean driven, int fuel, int end, int steps, String value) {
        String what = "run(" + driven + ", " + fuel + ")";
        check.due(what, Check.run(x, driven, fuel), end);
        check.due("steps() of " + what, x.steps(), steps);
        check.due("result(NONE) of " + what, x.result(NONE), end == 0 ? value.length() : NONE);
        check.due("result of " + what, Check.result(x), value);
        check.due("result(" + value.length() + ")", x.result(value.length()), NONE);
    }

    private static void appendTwice() {
        SuperDriver x = new SuperDriver();
        Check.function(x, 0, 2, true);
        Check.body(x, 0, 0, "a");
        Check.body(x, 0, 2, "Ma0bc");
        Check.goal(x, "00abc");
        Check.drive(x);
        Check.input(x, 0, "MNMNK");
        Check.input(x, 1, "MLKK");
        Check.input(x, 2, "K");
        runs(x, false, 500, 0, 7, "MNMNMLKK");
        runs(x, true, 500, 0, 5, "MNMNMLKK");
        runs(x, false, 7, 0, 7, "MNMNMLKK");
        runs(x, false, 6, 2, 6, "");
        runs(x, true, 5, 0, 5, "MNMNMLKK");
        runs(x, true, 4, 2, 4, "");
        runs(x, true, 1, 2, 1, "");
        Check.input(x, 0, "K");
        runs(x, true, 9, 0, 3, "MLKK");
        Check.input(x, 1, "N");
        runs(x, true, 9, 1, 1, "");
        runs(x, false, 9, 1, 1, "");
    }

    private static void reverse() {
        SuperDriver x = new SuperDriver();
        Check.function(x, 1, 2, true);
        Check.body(x, 1, 0, "a");
        Check.body(x, 1, 2, "1bMac");
        Check.goal(x, "1aK");
        Check.drive(x);
        Check.input(x, 0, "MNMLKMONK");
        runs(x, false, 100, 0, 4, "MONMLKMNK");
        runs(x, true, 100, 0, 4, "MONMLKMNK");
    }

    private static void wrongCalls() {
        SuperDriver x = new SuperDriver();
        int[] noFuel = {0, -1, 501, Integer.MIN_VALUE, Integer.MAX_VALUE};
        for (int fuel : noFuel) {
            check.due("fuel before goal", Check.run(x, false, fuel), Check.ARGUMENT);
            check.due("fuel before tree", Check.run(x, true, fuel), Check.ARGUMENT);
        }
        check.due("no goal", Check.run(x, false, 1), Check.STATE);
        Check.function(x, 0, 2, false);
        Check.body(x, 0, NONE, "b");
        Check.goal(x, "0cd");
        check.due("no input", Check.run(x, false, 1), Check.STATE);
        Check.drive(x);
        check.due("residual term", Check.residual(x, 0), "d");
        Check.input(x, 3, "ON");
        check.due("also if the residual one is without it", Check.run(x, true, 1), Check.STATE);
        Check.input(x, 2, "K");
        runs(x, true, 1, 0, 0, "ON");
        runs(x, false, 500, 0, 1, "ON");
        for (int fuel : noFuel) {
            check.due("no such fuel", Check.run(x, true, fuel), Check.ARGUMENT);
        }
        Check.goal(x, "0cd");
        check.due("no tree", Check.run(x, true, 1), Check.STATE);
        check.due("what was is kept", x.steps(), 1);
        check.due("what was is kept", Check.result(x), "ON");
    }

    private static void rowsUpTo200() {
        SuperDriver x = new SuperDriver();
        String input = "LLLLLLLLLLLLLLLLLLLLLLLK";
        Check.input(x, 0, input);
        Check.goal(x, "LMaMaMaMaMaMaMaa");
        check.due("200 signs", Check.run(x, false, 1), 0);
        check.due("result(NONE)", x.result(NONE), 200);
        check.due("result(1)", x.result(1), 2);
        check.due("result(199)", x.result(199), 0);
        check.due("result(200)", x.result(200), NONE);
        Check.goal(x, "LLMaMaMaMaMaMaMaa");
        runs(x, false, 1, 3, 0, "");
        Check.drive(x);
        runs(x, true, 1, 3, 0, "");
        Check.goal(x, "MaMaMaMaMaMaMaMaMaMaMaa");
        runs(x, false, 500, 3, 0, "");
    }

    private static void growingRows() {
        SuperDriver x = new SuperDriver();
        Check.function(x, 0, 1, false);
        Check.function(x, 1, 1, true);
        Check.body(x, 0, NONE, "10a");
        Check.goal(x, "0K");
        Check.drive(x);
        check.due("residual term", Check.residual(x, 1), "r2 r0");
        // 2 signs, and one more with each step.
        runs(x, false, 500, 3, 199, "");
        runs(x, false, 199, 3, 199, "");
        runs(x, false, 198, 2, 198, "");
        // 1 sign, for nothing stands behind r0.
        runs(x, true, 500, 3, 200, "");
        // The part is K at first, then it has 15, 127 and 1023 signs.
        Check.body(x, 0, NONE, "0MMMaaMaaMMaaMaa");
        runs(x, false, 500, 3, 3, "");
    }

    private static void whatEndsFirst() {
        SuperDriver x = new SuperDriver();
        Check.function(x, 0, 1, false);
        Check.function(x, 1, 1, false);
        Check.function(x, 2, 1, false);
        Check.body(x, 0, NONE, "1a");
        Check.body(x, 2, NONE, "a");
        Check.goal(x, "0K");
        runs(x, false, 1, 1, 1, "");
        Check.goal(x, "2N");
        runs(x, false, 1, 0, 1, "N");
        Check.goal(x, "1N");
        runs(x, false, 1, 1, 0, "");
        Check.goal(x, "22N");
        runs(x, false, 1, 2, 1, "");
        runs(x, false, 2, 0, 2, "N");
    }

    private static void stuck() {
        SuperDriver x = new SuperDriver();
        Check.function(x, 0, 1, true);
        Check.function(x, 1, 1, false);
        Check.body(x, 0, 0, "LK");
        Check.goal(x, "M0KM1a0K");
        Check.input(x, 0, "K");
        Check.drive(x);
        check.due("residual term", Check.residual(x, 0), "M L K M STUCK L K");
        runs(x, false, 9, 1, 1, "");
        runs(x, true, 9, 1, 0, "");
        Check.goal(x, "0a");
        Check.drive(x);
        runs(x, true, 9, 0, 1, "LK");
        Check.input(x, 0, "N");
        runs(x, true, 9, 1, 0, "");
        runs(x, false, 9, 1, 0, "");
    }

    private static void lazy() {
        SuperDriver x = new SuperDriver();
        Check.function(x, 0, 2, true);
        Check.function(x, 1, 1, false);
        Check.body(x, 0, 2, "a");
        Check.body(x, 1, NONE, "1a");
        // The endless call is never asked for.
        Check.goal(x, "0MLa1a1a");
        Check.input(x, 0, "N");
        Check.drive(x);
        runs(x, false, 9, 0, 1, "LN");
        runs(x, true, 9, 0, 0, "LN");
        Check.goal(x, "01aMaa");
        Check.drive(x);
        runs(x, false, 9, 2, 9, "");
        runs(x, true, 9, 2, 9, "");
    }

    private static void theLatestRun() {
        SuperDriver x = new SuperDriver();
        Check.function(x, 0, 1, false);
        Check.body(x, 0, NONE, "La");
        Check.goal(x, "00a");
        check.due("none yet", x.steps(), 0);
        check.due("one that throws", Check.run(x, false, 9), Check.STATE);
        check.due("none yet", x.result(NONE), NONE);
        Check.input(x, 0, "MKN");
        runs(x, false, 9, 0, 2, "LLMKN");
        int[] none = {-2, 5, 200, Integer.MIN_VALUE, Integer.MAX_VALUE};
        for (int i : none) {
            check.due("result(" + i + ")", x.result(i), NONE);
        }
        check.due("no fuel", Check.run(x, false, 0), Check.ARGUMENT);
        check.due("no tree", Check.run(x, true, 9), Check.STATE);
        Check.function(x, 1, 1, true);
        Check.body(x, 1, 0, "N");
        Check.input(x, 0, "N");
        Check.goal(x, "L0a");
        Check.drive(x);
        Check.type(x, "K");
        x.wipe();
        check.due("still the same", x.steps(), 2);
        check.due("still the same", Check.result(x), "LLMKN");
        runs(x, true, 9, 0, 0, "LLN");
        runs(x, false, 1, 0, 1, "LLN");
        Check.goal(x, "00a");
        runs(x, false, 1, 2, 1, "");
        Check.goal(x, "1N");
        runs(x, false, 1, 1, 0, "");
        x.forget();
        check.due("forgotten", x.steps(), 0);
        check.due("forgotten", x.result(NONE), NONE);
    }

    /** A node 3 that is a target has a plain function, whose parameters may come in any order. */
    private static void functionsOfSteps() {
        SuperDriver x = new SuperDriver();
        Check.function(x, 1, 2, false);
        Check.body(x, 1, NONE, "1ba");
        Check.goal(x, "1cMac");
        Check.drive(x);
        Check.input(x, 0, "K");
        Check.input(x, 2, "LN");
        runs(x, false, 50, 2, 50, "");
        runs(x, true, 50, 2, 50, "");
        SuperDriver y = new SuperDriver();
        Check.function(y, 0, 3, true);
        Check.body(y, 0, 1, "0cab");
        Check.body(y, 0, 3, "Mab");
        Check.goal(y, "0cab");
        Check.drive(y);
        check.due("residual terms", Check.residual(y, 0), "r0 c a b");
        check.due("residual terms", Check.residual(y, 1), "r0 b x8 a");
        Check.input(y, 2, "LLN");
        Check.input(y, 0, "LOK");
        Check.input(y, 1, "LN");
        // 0(LLN, LOK, LN) is 0(LN, LN, LOK), 0(LOK, N, LN), 0(LN, OK, N), 0(N, N, OK), M N OK.
        runs(y, false, 50, 0, 5, "MNOK");
        runs(y, true, 50, 0, 5, "MNOK");
    }
}
