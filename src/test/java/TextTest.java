/** Promises 1 to 4: a new object, type, wipe, forget. */
public final class TextTest {
    private static final int NONE = SuperDriver.NONE;
    private static final Check check = new Check("TextTest");

    public static void main(String[] args) {
        check.due("NONE", NONE, -1);
        allIsAsAtTheBeginning("new object", new SuperDriver());
        lettersComeHighestByteFirst();
        zeroBytesArePassedOver();
        wrongLettersAreRefused();
        atMostTwentyFour();
        wipeEmptiesTheText();
        forgetForgetsAll();
        check.end();
    }

    private static void allIsAsAtTheBeginning(String name, SuperDriver x) {
        check.due(name + ": steps()", x.steps(), 0);
        check.due(name + ": result(NONE)", x.result(NONE), NONE);
        check.due(name + ": result(0)", x.result(0), NONE);
        check.due(name + ": node(0, 0)", x.node(0, 0), NONE);
        check.due(name + ": term(0, NONE)", x.term(0, NONE), NONE);
        check.due(name + ": residual(0, NONE)", x.residual(0, NONE), NONE);
        check.due(name + ": drive()", Check.drive(x), Check.STATE);
        check.due(name + ": run(false, 1)", Check.run(x, false, 1), Check.STATE);
        check.due(name + ": run(true, 1)", Check.run(x, true, 1), Check.STATE);
        check.due(name + ": goal() of an empty text", Check.goal(x), Check.ARGUMENT);
        check.dueFalse(name + ": input(0) of an empty text", x.input(0));
        for (int f = 0; f < 8; f++) {
            check.due(name + ": body of " + f, Check.body(x, f, NONE), Check.STATE);
        }
        for (int v = 0; v < 8; v++) {
            check.due(name + ": goal " + v, Check.goal(x, "" + (char) ('a' + v)), Check.DONE);
            check.due(name + ": no input " + v, Check.run(x, false, 1), Check.STATE);
        }
        for (int f = 0; f < 8; f++) {
            check.due(name + ": function " + f, Check.function(x, f, 1, false), Check.DONE);
            Check.goal(x, f + "K");
            check.due(name + ": drive " + f, Check.drive(x), 1);
            check.due(name + ": without a body", x.node(0, 0), 5);
        }
    }

    private static void lettersComeHighestByteFirst() {
        SuperDriver x = new SuperDriver();
        check.dueTrue("type(MabKKKKK)", x.type(Check.part("MaMbMcMd")));
        check.dueTrue("type(MeMfMgMh)", x.type(Check.part("MeMfMgMh")));
        check.dueTrue("type(PNOLK)", x.type(Check.part("PNOLK")));
        check.due("goal()", Check.goal(x), Check.DONE);
        check.due("drive()", Check.drive(x), 21);
        check.due("term 0", Check.term(x, 0), "M a M b M c M d M e M f M g M h P N O L K");
        int[] due = {102, 0, 102, 1, 102, 2, 102, 3, 102, 4, 102, 5, 102, 6, 102, 7,
            105, 103, 104, 101, 100};
        for (int i = 0; i < due.length; i++) {
            check.due("term(0, " + i + ")", x.term(0, i), due[i]);
        }
        SuperDriver y = new SuperDriver();
        for (int f = 0; f < 8; f++) {
            Check.function(y, f, 1, false);
        }
        check.dueTrue("type(01234567)", y.type(Check.part("01234567")));
        check.due("no term yet", Check.goal(y), Check.ARGUMENT);
        check.dueTrue("type(K)", y.type('K'));
        check.due("a term now", Check.goal(y), Check.DONE);
        Check.drive(y);
        for (int f = 0; f < 8; f++) {
            check.due("term(0, " + f + ")", y.term(0, f), 200 + f);
        }
    }

    private static void zeroBytesArePassedOver() {
        SuperDriver x = new SuperDriver();
        check.dueTrue("type(0)", x.type(0));
        check.due("still empty", Check.goal(x), Check.ARGUMENT);
        check.dueTrue("zeros between", x.type(0x4d00006100004b00L));
        check.due("goal()", Check.goal(x), Check.DONE);
        Check.drive(x);
        check.due("term 0", Check.term(x, 0), "M a K");
    }

    private static void wrongLettersAreRefused() {
        int[] wrong = {1, '/', '8', '9', 'A', 'J', 'Q', 'Z', '`', 'i', 'z', ' ', 127, 128,
            'a' + 128, 255};
        for (int letter : wrong) {
            SuperDriver x = new SuperDriver();
            x.type('L');
            check.dueFalse("type of " + letter, x.type(letter));
            check.dueFalse("type of K and " + letter, x.type('K' << 8 | letter));
            check.dueFalse("type of " + letter + " high", x.type((long) letter << 56 | 'K'));
            check.dueTrue("type(a)", x.type('a'));
            check.due("goal()", Check.goal(x), Check.DONE);
            Check.drive(x);
            check.due("what was refused is not there", Check.term(x, 0), "L a");
        }
        check.dueFalse("type(-1)", new SuperDriver().type(-1));
        check.dueFalse("type(MIN)", new SuperDriver().type(Long.MIN_VALUE));
    }

    private static void atMostTwentyFour() {
        SuperDriver x = new SuperDriver();
        check.dueTrue("23 letters", Check.type(x, "LLLLLLLLLLLLLLLLLLLLLLL"));
        check.dueFalse("25 letters", x.type(Check.part("LK")));
        check.dueTrue("24 letters", x.type('K'));
        check.dueFalse("one more", x.type('K'));
        check.dueTrue("none more", x.type(0));
        check.due("goal()", Check.goal(x), Check.DONE);
        check.due("drive()", Check.drive(x), 24);
        check.due("24 signs", x.term(0, NONE), 24);
        check.dueTrue("room again", Check.type(x, "LLLLLLLLLLLLLLLLLLLLLLLL"));
        check.dueFalse("but no more", x.type('K'));
    }

    private static void wipeEmptiesTheText() {
        SuperDriver x = new SuperDriver();
        x.wipe();
        Check.type(x, "LLL");
        x.wipe();
        check.due("nothing there", Check.goal(x), Check.ARGUMENT);
        check.due("only what came later", Check.goal(x, "OK"), Check.DONE);
        check.due("drive()", Check.drive(x), 2);
        Check.type(x, "LLL");
        x.wipe();
        check.due("the tree stays", x.node(1, 0), 1);
        check.due("the goal stays", Check.run(x, false, 1), 0);
        x.wipe();
        check.due("the result stays", Check.result(x), "OK");
    }

    private static void forgetForgetsAll() {
        SuperDriver x = new SuperDriver();
        for (int f = 0; f < 8; f++) {
            Check.function(x, f, 1 + f % 3, f % 2 == 0);
            for (int c = f % 2 == 0 ? 0 : NONE; c < (f % 2 == 0 ? 6 : 0); c++) {
                check.due("body", Check.body(x, f, c, "K"), Check.DONE);
            }
            check.dueTrue("input", Check.input(x, f, "LK"));
        }
        Check.goal(x, "0a");
        check.due("drive()", Check.drive(x), 7);
        check.due("run", Check.run(x, true, 9), 0);
        check.due("steps()", x.steps(), 1);
        Check.type(x, "K");
        x.forget();
        allIsAsAtTheBeginning("forgotten", x);
        x.forget();
        Check.function(x, 0, 1, true);
        Check.goal(x, "0a");
        Check.drive(x);
        check.due("the clauses are forgotten", Check.kinds(x), "4");
    }
}
