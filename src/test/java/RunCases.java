/** What the document says of runs: promises 13 to 15. */
final class RunCases {
    private static final int NONE = SuperDriver.NONE;
    /** 24 signs, so that eight of them and the constructors that join them are 199. */
    private static final String LONG = "LLLLLLLLLLLLLLLLLLLLLLLK";
    private static final String EIGHT = "MaMaMaMaMaMaMaa";

    private final Check check;

    RunCases(Check check) {
        this.check = check;
    }

    void all() {
        bothProgramsRun();
        rowWithInputs();
        rowOfResidualTerm();
        twoHundredSigns();
        twoHundredSignsBeforeAllElse();
        growingRow();
        doublingRow();
        noNextCall();
        notToBeUnfolded();
        fuelIsUsed();
        aStep();
        howItEnded();
        fuelOutOfRange();
        fuelInRange();
        runWithoutGoal();
        runWithoutTree();
        runWithoutInput();
        constructorsOfTheRow();
        howManyConstructors();
        noSuchConstructor();
        noResultUnlessItEndedWithZero();
        latestRun();
        stepsOfTheLatestRun();
        noStepsYet();
    }

    private void bothProgramsRun() {
        check.by(Document.WHAT, "the tree is a program without what could be done ahead, and both"
            + " programs run");
        SuperDriver x = check.program("0/2/cased K=a M=Ma0bc", "1/2/cased K=a M=1bMac");
        check.driven(x, "00abc", 10);
        check.dueTrue("input", Check.input(x, 0, "MNMNK"));
        check.dueTrue("input", Check.input(x, 1, "MLKK"));
        check.dueTrue("input", Check.input(x, 2, "K"));
        check.runs(x, false, 500, 0, 7, "MNMNMLKK");
        check.runs(x, true, 500, 0, 5, "MNMNMLKK");
        check.dueTrue("input", Check.input(x, 0, "K"));
        check.runs(x, true, 9, 0, 3, "MLKK");
        check.dueTrue("input", Check.input(x, 0, "MNMLKMONK"));
        check.driven(x, "1aK", 13);
        check.runs(x, false, 100, 0, 4, "MONMLKMNK");
        check.runs(x, true, 100, 0, 4, "MONMLKMNK");
    }

    // ---- how a run goes ----

    private void rowWithInputs() {
        check.by(Document.TERMS, "TO RUN a program: the row is the goal");
        SuperDriver x = new SuperDriver();
        check.due("goal", Check.goal(x, "MaPhMah"), Check.DONE);
        check.dueTrue("input", Check.input(x, 0, "LK"));
        check.dueTrue("input", Check.input(x, 7, "MNK"));
        // Inputs for other variables do not count.
        check.dueTrue("input", Check.input(x, 3, "O" + LONG.substring(1)));
        check.runs(x, false, 1, 0, 0, "MLKPMNKMLKMNK");
    }

    private void rowOfResidualTerm() {
        check.by(Document.TERMS, "(driven: the residual term of node 0) with the INPUTS in place of its"
            + " variables");
        SuperDriver x = check.program("0/2/plain MbLa", "1/2/plain Mab");
        check.driven(x, "0hPaa", 7);
        check.residuals(x, "M P a a L h");
        check.dueTrue("input", Check.input(x, 0, "N"));
        check.dueTrue("input", Check.input(x, 7, "OK"));
        check.runs(x, true, 1, 0, 0, "MPNNLOK");
        check.dueTrue("input", Check.input(x, 7, "N"));
        check.runs(x, true, 1, 0, 0, "MPNNLN");
        // The tree is that of the goal, whatever else is done with the text.
        Check.type(x, "KKK");
        check.runs(x, true, 1, 0, 0, "MPNNLN");
    }

    private void twoHundredSigns() {
        check.by(Document.TERMS, "3 if the row has more than 200 signs, it ends");
        SuperDriver x = new SuperDriver();
        check.dueTrue("input", Check.input(x, 0, LONG));
        String[] goals = {EIGHT, "L" + EIGHT, "LL" + EIGHT, "LLL" + EIGHT, "Ma" + EIGHT};
        int[] ends = {0, 0, 3, 3, 3};
        for (int k = 0; k < goals.length; k++) {
            check.due("goal", Check.goal(x, goals[k]), Check.DONE);
            check.due("drive()", Check.drive(x), goals[k].length());
            for (int driven = 0; driven < 2; driven++) {
                check.due("run of " + goals[k], Check.run(x, driven == 1, 1), ends[k]);
                check.due("steps()", x.steps(), 0);
                check.due("result(NONE)", x.result(NONE), ends[k] == 0 ? 199 + k : NONE);
            }
        }
    }

    private void twoHundredSignsBeforeAllElse() {
        check.by(Document.TERMS, "3 if the row has more than 200 signs, it ends; 0 if");
        SuperDriver x = check.program("1/1/plain", "2/1/plain a", "3/1/plain 1a");
        check.dueTrue("input", Check.input(x, 0, LONG));
        String rest = "MaMaMaMaMaMaMab";
        for (int more = 0; more < 2; more++) {
            check.dueTrue("input", Check.input(x, 1, LONG.substring(2 - more)));
            check.due("a call without a body", Check.goal(x, "M1K" + rest), Check.DONE);
            check.runs(x, false, 5, more == 0 ? 1 : 3, 0, "");
            check.due("a call with one", Check.goal(x, "M2K" + rest), Check.DONE);
            check.due("run", Check.run(x, false, 5), more == 0 ? 0 : 3);
            check.due("steps()", x.steps(), more == 0 ? 1 : 0);
        }
    }

    private void growingRow() {
        check.by(Document.TERMS, "3 if the row has more than 200 signs");
        SuperDriver x = check.program("0/1/plain 10a", "1/1/cased");
        check.driven(x, "0K", 4);
        check.residuals(x, "r0", "r2 r0");
        // 2 signs, and one more with each step: after 198 steps there are 200.
        check.runs(x, false, 198, 2, 198, "");
        check.runs(x, false, 199, 3, 199, "");
        check.runs(x, false, 500, 3, 199, "");
        // 1 sign, for nothing stands behind r0.
        check.runs(x, true, 199, 2, 199, "");
        check.runs(x, true, 200, 3, 200, "");
        check.runs(x, true, 500, 3, 200, "");
    }

    private void doublingRow() {
        check.by(Document.TERMS, "3 if the row has more than 200 signs");
        SuperDriver x = check.program("0/1/plain 0MMMaaMaaMMaaMaa", "1/1/plain MaMaMaMaMaa");
        // The part is K at first, then it has 15 and 127 signs, and 1023.
        check.due("goal", Check.goal(x, "0K"), Check.DONE);
        check.runs(x, false, 500, 3, 3, "");
        check.runs(x, false, 3, 3, 3, "");
        check.runs(x, false, 2, 2, 2, "");
        // What is too long is so even if the next step would make it shorter.
        check.due("body", Check.body(x, 0, NONE, "K"), Check.DONE);
        check.dueTrue("input", Check.input(x, 0, LONG));
        check.due("goal", Check.goal(x, "0Ma" + EIGHT), Check.DONE);
        check.runs(x, false, 500, 3, 0, "");
        check.due("goal", Check.goal(x, "0" + EIGHT), Check.DONE);
        check.runs(x, false, 500, 0, 1, "K");
        check.due("goal", Check.goal(x, "LL0" + EIGHT), Check.DONE);
        check.runs(x, false, 500, 3, 0, "");
    }

    private void noNextCall() {
        check.by(Document.TERMS, "0 if it has no next call");
        SuperDriver x = check.program("2/1/plain a");
        check.due("goal", Check.goal(x, "MKN"), Check.DONE);
        check.runs(x, false, 1, 0, 0, "MKN");
        // All fuel is used, but it ends with 0.
        check.due("goal", Check.goal(x, "2N"), Check.DONE);
        check.runs(x, false, 1, 0, 1, "N");
        check.due("goal", Check.goal(x, "22N"), Check.DONE);
        check.runs(x, false, 2, 0, 2, "N");
    }

    private void notToBeUnfolded() {
        check.by(Document.TERMS, "1 if that cannot be unfolded");
        SuperDriver x = check.program("0/1/plain 1a", "1/1/plain", "2/1/cased L=a");
        String[] goals = {"1K", "2K", "2N", "2MKK", "M2LK1K", "22K", "21K", "LM1KN", "0K"};
        int[] steps = {0, 0, 0, 0, 1, 0, 0, 0, 1};
        for (int k = 0; k < goals.length; k++) {
            check.due("goal " + goals[k], Check.goal(x, goals[k]), Check.DONE);
            check.runs(x, false, 9, 1, steps[k], "");
            // Also if all fuel is used.
            check.runs(x, false, 1, 1, steps[k], "");
        }
        check.driven(x, "M2LK1K", 4);
        check.runs(x, true, 9, 1, 0, "");
        check.driven(x, "2a", 2);
        check.dueTrue("input", Check.input(x, 0, "OK"));
        check.runs(x, true, 9, 1, 0, "");
    }

    private void fuelIsUsed() {
        check.by(Document.TERMS, "2 if so many STEPS were made as there is fuel");
        SuperDriver x = check.program("0/1/plain 0a", "1/1/cased L=1a N=K");
        check.driven(x, "0K", 2);
        for (int fuel : new int[] {1, 2, 3, 499, 500}) {
            check.runs(x, false, fuel, 2, fuel, "");
            check.runs(x, true, fuel, 2, fuel, "");
        }
        check.due("goal", Check.goal(x, "1LLLN"), Check.DONE);
        check.runs(x, false, 3, 2, 3, "");
        check.runs(x, false, 4, 0, 4, "K");
        check.runs(x, false, 5, 0, 4, "K");
    }

    private void aStep() {
        check.by(Document.TERMS, "otherwise it is unfolded, a STEP");
        SuperDriver x = check.program("0/1/plain La", "1/2/cased K=a", "2/1/plain 2a");
        check.due("goal", Check.goal(x, "M0KP0N00K"), Check.DONE);
        check.runs(x, false, 500, 0, 4, "MLKPLNLLK");
        check.runs(x, false, 3, 2, 3, "");
        // What is not asked for is not unfolded.
        check.due("goal", Check.goal(x, "1KL1K0N"), Check.DONE);
        check.runs(x, false, 500, 0, 3, "LLN");
        check.due("body", Check.body(x, 1, 2, "a"), Check.DONE);
        check.driven(x, "1MLa2a2a", 3);
        check.dueTrue("input", Check.input(x, 0, "N"));
        check.runs(x, false, 9, 0, 1, "LN");
        check.runs(x, true, 9, 0, 0, "LN");
    }

    // ---- promise 13 ----

    private void howItEnded() {
        check.by(Document.RUN, "Runs the program, or the residual one (driven): how it ended, 0 .. 3");
        SuperDriver x = check.program("0/1/plain La", "1/1/plain", "2/1/plain 2a",
            "3/1/plain 43a", "4/1/cased");
        String[] goals = {"00a", "1a", "2a", "3a"};
        int[] steps = {2, 0, 500, 199};
        int[] drivenSteps = {0, 0, 500, 199};
        check.dueTrue("input", Check.input(x, 0, "N"));
        for (int end = 0; end < 4; end++) {
            check.due("goal", Check.goal(x, goals[end]), Check.DONE);
            check.dueTrue("drive()", Check.drive(x) > 0);
            String value = end == 0 ? "LLN" : "";
            check.runs(x, false, 500, end, steps[end], value);
            check.runs(x, true, 500, end, drivenSteps[end], value);
        }
    }

    private void fuelOutOfRange() {
        check.by(Document.RUN, "IllegalArgumentException if fuel is not 1 .. 500");
        int[] none = {0, 501, -1, 502, -500, Integer.MIN_VALUE, Integer.MAX_VALUE};
        SuperDriver x = new SuperDriver();
        for (int fuel : none) {
            check.due("no goal, fuel " + fuel, Check.run(x, false, fuel), Check.ARGUMENT);
            check.due("no tree, fuel " + fuel, Check.run(x, true, fuel), Check.ARGUMENT);
        }
        check.driven(x, "LK", 2);
        check.runs(x, true, 1, 0, 0, "LK");
        for (int fuel : none) {
            check.due("fuel " + fuel, Check.run(x, false, fuel), Check.ARGUMENT);
            check.due("fuel " + fuel, Check.run(x, true, fuel), Check.ARGUMENT);
            check.due("result", Check.result(x), "LK");
        }
    }

    private void fuelInRange() {
        check.by(Document.RUN, "fuel is not 1 .. 500");
        SuperDriver x = check.program("0/1/plain 0a");
        check.driven(x, "0K", 2);
        for (int fuel = 1; fuel <= 500; fuel += fuel == 1 ? 498 : 1) {
            check.runs(x, false, fuel, 2, fuel, "");
            check.runs(x, true, fuel, 2, fuel, "");
        }
    }

    private void runWithoutGoal() {
        check.by(Document.RUN, "IllegalStateException if there is no goal");
        SuperDriver x = check.program("0/1/plain K");
        check.dueTrue("input", Check.input(x, 0, "N"));
        Check.type(x, "0K");
        for (int fuel : new int[] {1, 500}) {
            check.due("run(false, " + fuel + ")", Check.run(x, false, fuel), Check.STATE);
            check.due("run(true, " + fuel + ")", Check.run(x, true, fuel), Check.STATE);
        }
        check.due("goal()", Check.goal(x), Check.DONE);
        check.runs(x, false, 1, 0, 1, "K");
        x.forget();
        check.due("forgotten", Check.run(x, false, 1), Check.STATE);
    }

    private void runWithoutTree() {
        check.by(Document.RUN, "or no tree (driven)");
        SuperDriver x = check.program("0/1/plain K");
        check.due("goal", Check.goal(x, "0K"), Check.DONE);
        check.due("run(true, 1)", Check.run(x, true, 1), Check.STATE);
        check.runs(x, false, 1, 0, 1, "K");
        check.due("run(true, 1)", Check.run(x, true, 1), Check.STATE);
        check.due("drive()", Check.drive(x), 2);
        check.runs(x, true, 1, 0, 0, "K");
        check.due("function", Check.function(x, 1, 1, true), Check.DONE);
        check.due("after function", Check.run(x, true, 1), Check.STATE);
        check.due("drive()", Check.drive(x), 2);
        check.due("body", Check.body(x, 1, 0, "K"), Check.DONE);
        check.due("after body", Check.run(x, true, 1), Check.STATE);
        check.due("drive()", Check.drive(x), 2);
        check.due("goal", Check.goal(x, "0K"), Check.DONE);
        check.due("after goal", Check.run(x, true, 1), Check.STATE);
        check.due("body", Check.body(x, 0, NONE, "L0a"), Check.DONE);
        check.due("drive()", Check.drive(x), Check.UNSUPPORTED);
        check.due("after a drive that was too great", Check.run(x, true, 1), Check.STATE);
    }

    private void runWithoutInput() {
        check.by(Document.RUN, "or no input for a variable of the goal");
        SuperDriver x = check.program("0/2/plain b");
        check.driven(x, "0cd", 2);
        check.residuals(x, "d");
        check.due("none", Check.run(x, false, 1), Check.STATE);
        check.due("none", Check.run(x, true, 1), Check.STATE);
        check.dueTrue("input", Check.input(x, 3, "ON"));
        check.due("one is wanting", Check.run(x, false, 1), Check.STATE);
        // Also if the residual term is without it.
        check.due("one is wanting", Check.run(x, true, 1), Check.STATE);
        check.due("steps()", x.steps(), 0);
        check.dueTrue("input", Check.input(x, 2, "K"));
        check.runs(x, true, 1, 0, 0, "ON");
        check.runs(x, false, 500, 0, 1, "ON");
        for (int v = 0; v < 8; v++) {
            SuperDriver y = new SuperDriver();
            check.driven(y, "MK" + (char) ('a' + v), 3);
            for (int other = 0; other < 8; other++) {
                if (other != v) {
                    check.dueTrue("input", Check.input(y, other, "K"));
                }
            }
            check.due("all but that one", Check.run(y, false, 1), Check.STATE);
            check.due("all but that one", Check.run(y, true, 1), Check.STATE);
            check.dueTrue("input", Check.input(y, v, "N"));
            check.runs(y, false, 1, 0, 0, "MKN");
        }
    }

    // ---- promise 14 ----

    private void constructorsOfTheRow() {
        check.by(Document.RESULT, "constructor (0 .. 5) number i of the row, if it ended with 0");
        SuperDriver x = new SuperDriver();
        int[] constructors = {2, 1, 0, 5, 4, 3, 0};
        check.due("goal", Check.goal(x, "MLKPONK"), Check.DONE);
        check.due("run", Check.run(x, false, 1), 0);
        for (int i = 0; i < constructors.length; i++) {
            check.due("result(" + i + ")", x.result(i), constructors[i]);
        }
    }

    private void howManyConstructors() {
        check.by(Document.RESULT, "how many there are, if i is NONE");
        SuperDriver x = check.program("0/1/plain LLLa");
        check.due("goal", Check.goal(x, "K"), Check.DONE);
        check.runs(x, false, 1, 0, 0, "K");
        check.due("result(NONE)", x.result(NONE), 1);
        check.due("goal", Check.goal(x, "00K"), Check.DONE);
        check.runs(x, false, 2, 0, 2, "LLLLLLK");
        check.due("result(NONE)", x.result(NONE), 7);
        check.dueTrue("input", Check.input(x, 0, LONG));
        check.due("goal", Check.goal(x, "L" + EIGHT), Check.DONE);
        check.due("run", Check.run(x, false, 1), 0);
        check.due("result(NONE)", x.result(NONE), 200);
        check.due("result(199)", x.result(199), 0);
        check.due("result(200)", x.result(200), NONE);
    }

    private void noSuchConstructor() {
        check.by(Document.RESULT, "NONE if there is none such");
        SuperDriver x = new SuperDriver();
        int[] none = {-2, 2, 3, 199, 200, 201, Integer.MIN_VALUE, Integer.MAX_VALUE};
        for (int i = -2; i < 3; i++) {
            check.due("no run, result(" + i + ")", x.result(i), NONE);
        }
        check.due("goal", Check.goal(x, "LLLLLLLLK"), Check.DONE);
        check.runs(x, false, 1, 0, 0, "LLLLLLLLK");
        check.due("goal", Check.goal(x, "LK"), Check.DONE);
        check.runs(x, false, 1, 0, 0, "LK");
        for (int i : none) {
            check.due("result(" + i + ")", x.result(i), NONE);
        }
        check.due("the last one", x.result(1), 0);
    }

    private void noResultUnlessItEndedWithZero() {
        check.by(Document.RESULT, "if it ended with 0");
        SuperDriver x = check.program("1/1/plain", "2/1/plain 2a", "3/1/plain 3Maa");
        String[] goals = {"MKM1KN", "MKM2KN", "MKM3KN"};
        for (int end = 1; end <= 3; end++) {
            check.due("goal", Check.goal(x, "MKN"), Check.DONE);
            check.runs(x, false, 9, 0, 0, "MKN");
            check.due("goal", Check.goal(x, goals[end - 1]), Check.DONE);
            check.due("run", Check.run(x, false, 9), end);
            for (int i = -2; i < 8; i++) {
                check.due("result(" + i + ") of " + end, x.result(i), NONE);
            }
        }
    }

    private void latestRun() {
        check.by(Document.RESULT, "The latest run that did not throw");
        SuperDriver x = check.program("0/1/plain La");
        check.due("goal", Check.goal(x, "00a"), Check.DONE);
        check.due("one that throws", Check.run(x, false, 9), Check.STATE);
        check.due("none yet", x.result(NONE), NONE);
        check.dueTrue("input", Check.input(x, 0, "MKN"));
        check.runs(x, false, 9, 0, 2, "LLMKN");
        check.due("no such fuel", Check.run(x, false, 0), Check.ARGUMENT);
        check.due("no tree", Check.run(x, true, 9), Check.STATE);
        check.due("still the same", Check.result(x), "LLMKN");
        check.due("function", Check.function(x, 1, 1, true), Check.DONE);
        check.due("body", Check.body(x, 1, 0, "N"), Check.DONE);
        check.dueTrue("input", Check.input(x, 0, "N"));
        check.driven(x, "L0a", 4);
        Check.type(x, "K");
        x.wipe();
        check.due("still the same", Check.result(x), "LLMKN");
        check.due("still the same", x.steps(), 2);
        check.runs(x, true, 9, 0, 0, "LLN");
        check.runs(x, false, 1, 0, 1, "LLN");
    }

    // ---- promise 15 ----

    private void stepsOfTheLatestRun() {
        check.by(Document.STEPS, "How many STEPS the latest run made that did not throw");
        SuperDriver x = check.program("0/1/plain 0a", "1/1/cased L=1a N=K", "2/1/plain");
        check.due("goal", Check.goal(x, "1LLLN"), Check.DONE);
        check.due("run", Check.run(x, false, 500), 0);
        check.due("steps()", x.steps(), 4);
        check.due("steps() again", x.steps(), 4);
        for (int fuel : new int[] {0, 501}) {
            check.due("no such fuel", Check.run(x, false, fuel), Check.ARGUMENT);
            check.due("steps()", x.steps(), 4);
        }
        check.due("no tree", Check.run(x, true, 5), Check.STATE);
        check.due("steps()", x.steps(), 4);
        check.due("goal", Check.goal(x, "a"), Check.DONE);
        check.due("no input", Check.run(x, false, 5), Check.STATE);
        check.due("steps()", x.steps(), 4);
        check.due("goal", Check.goal(x, "0K"), Check.DONE);
        check.due("steps()", x.steps(), 4);
        check.due("run", Check.run(x, false, 500), 2);
        check.due("steps()", x.steps(), 500);
        check.due("goal", Check.goal(x, "2K"), Check.DONE);
        check.due("run", Check.run(x, false, 500), 1);
        check.due("steps()", x.steps(), 0);
    }

    private void noStepsYet() {
        check.by(Document.STEPS, "0 if there was none");
        SuperDriver x = check.program("0/1/plain La");
        check.due("steps()", x.steps(), 0);
        check.driven(x, "0a", 3);
        check.due("steps()", x.steps(), 0);
        check.due("one that throws", Check.run(x, false, 9), Check.STATE);
        check.due("one that throws", Check.run(x, true, 0), Check.ARGUMENT);
        check.due("steps()", x.steps(), 0);
        check.dueTrue("input", Check.input(x, 0, "K"));
        check.runs(x, false, 9, 0, 1, "LK");
        x.forget();
        check.due("steps()", x.steps(), 0);
    }
}
