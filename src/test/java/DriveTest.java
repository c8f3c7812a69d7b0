/** Promises 9 to 12: drive, node, term, residual. The trees were made by hand. */
public final class DriveTest {
    private static final int NONE = SuperDriver.NONE;
    private static final Check check = new Check("DriveTest");

    public static void main(String[] args) {
        appendTwice();
        reverse();
        growingStep();
        otherFirstSign();
        stuck();
        withoutParameters();
        swappedParameters();
        oneVariableForTheSamePair();
        standsForPartsOfTheLet();
        renamedOneForOne();
        variablesAreNotInConstructors();
        buildsKeepStepsApart();
        splitWithAllClauses();
        noSuchNode();
        againAndAgain();
        nodesUpTo47();
        signsUpTo40();
        shorterByUnfolding();
        variablesUpTo99();
        residualsUpTo100();
        check.end();
    }

    private static void nodes(SuperDriver x, int w, int... due) {
        for (int n = 0; n < due.length; n++) {
            check.due("node(" + n + ", " + w + ")", x.node(n, w), due[n]);
        }
        check.due("node(" + due.length + ", " + w + ")", x.node(due.length, w), NONE);
    }

    private static void terms(SuperDriver x, String... due) {
        for (int n = 0; n < due.length; n++) {
            check.due("term " + n, Check.term(x, n), due[n]);
        }
    }

    private static void residuals(SuperDriver x, String... due) {
        for (int n = 0; n < due.length; n++) {
            check.due("residual " + n, Check.residual(x, n), due[n]);
        }
    }

    private static void appendTwice() {
        SuperDriver x = new SuperDriver();
        Check.function(x, 0, 2, true);
        Check.body(x, 0, 0, "a");
        Check.body(x, 0, 2, "Ma0bc");
        Check.goal(x, "00abc");
        check.due("drive()", Check.drive(x), 10);
        nodes(x, 0, 4, 4, 3, 1, 2, 2, 1, 6, 1, 6);
        nodes(x, 1, NONE, 0, 0, 1, 1, 2, 4, 4, 5, 5);
        nodes(x, 2, 0, 1, NONE, NONE, 2, 2, NONE, 1, NONE, 0);
        nodes(x, 3, 1, 1, 0, 0, 0, 0, 0, 0, 0, 0);
        terms(x, "f0 f0 a b c", "f0 b c", "f0 M x8 f0 x9 b c", "c", "M x10 f0 x11 c",
            "M x8 f0 f0 x9 b c", "x10", "f0 x11 c", "x8", "f0 f0 x9 b c");
        residuals(x, "r0 a b c", "r1 b c", "M x8 r0 x9 b c", "c", "M x10 r1 x11 c",
            "M x8 r0 x9 b c", "x10", "r1 x11 c", "x8", "r0 x9 b c");
    }

    private static void reverse() {
        SuperDriver x = new SuperDriver();
        Check.function(x, 1, 2, true);
        Check.body(x, 1, 0, "a");
        Check.body(x, 1, 2, "1bMac");
        Check.goal(x, "1aK");
        check.due("drive()", Check.drive(x), 13);
        nodes(x, 0, 7, 0, 0, 4, 1, 1, 1, 7, 6, 1, 2, 1, 1);
        nodes(x, 1, NONE, 0, 0, 0, 0, 0, 3, 3, 7, 7, 7, 10, 10);
        nodes(x, 2, 2, NONE, NONE, 10, NONE, NONE, NONE, 2, 3, NONE, 2, NONE, NONE);
        nodes(x, 3, 0, 0, 0, 1, 0, 0, 0, 0, 0, 0, 0, 0, 0);
        terms(x, "f1 a K", "K", "f1 x9 M x8 K", "f1 x10 x11", "a", "K", "x11",
            "f1 x13 M x12 x11", "f1 x14 x15", "x13", "M x12 x11", "x12", "x11");
        residuals(x, "r3 a K", "", "", "r3 x10 x11", "a", "K", "x11",
            "r3 x13 M x12 x11", "r3 x14 x15", "x13", "M x12 x11", "x12", "x11");
        check.due("the term of a node that is gone", x.term(2, NONE), 5);
        check.due("it has no residual one", x.residual(2, NONE), NONE);
        check.due("nor any sign of it", x.residual(2, 0), NONE);
    }

    private static void growingStep() {
        SuperDriver x = new SuperDriver();
        Check.function(x, 2, 1, false);
        Check.body(x, 2, NONE, "2La");
        Check.goal(x, "2a");
        check.due("drive()", Check.drive(x), 5);
        nodes(x, 0, 3, 7, 6, 2, 1);
        nodes(x, 1, NONE, 0, 1, 1, 3);
        nodes(x, 2, NONE, 1, 0, 1, NONE);
        nodes(x, 3, 1, 0, 0, 0, 0);
        terms(x, "f2 a", "f2 L a", "f2 x8", "L a", "a");
        residuals(x, "r0 a", "r0 L a", "r0 x8", "L a", "a");
    }

    private static void otherFirstSign() {
        SuperDriver x = new SuperDriver();
        Check.function(x, 0, 1, false);
        Check.function(x, 1, 3, true);
        Check.body(x, 0, NONE, "10aaLa");
        Check.goal(x, "0a");
        check.due("drive()", Check.drive(x), 7);
        nodes(x, 0, 3, 7, 4, 6, 1, 2, 1);
        nodes(x, 1, NONE, 0, 1, 1, 1, 1, 5);
        nodes(x, 2, NONE, 3, 8, 0, NONE, 1, NONE);
        nodes(x, 3, 1, 0, 1, 0, 0, 0, 0);
        terms(x, "f0 a", "f1 f0 a a L a", "f1 x8 x9 x10", "f0 a", "a", "L a", "a");
        residuals(x, "r0 a", "r2 r0 a a L a", "r2 x8 x9 x10", "r0 a", "a", "L a", "a");
    }

    private static void stuck() {
        SuperDriver x = new SuperDriver();
        Check.function(x, 3, 1, true);
        Check.function(x, 4, 2, false);
        Check.body(x, 3, 3, "K");
        Check.goal(x, "M3KM4ab3N");
        check.due("drive()", Check.drive(x), 6);
        nodes(x, 0, 2, 5, 2, 5, 3, 1);
        nodes(x, 2, 2, NONE, 2, NONE, NONE, NONE);
        nodes(x, 3, 0, 0, 0, 0, 0, 0);
        residuals(x, "M STUCK M STUCK K", "STUCK", "M STUCK K", "STUCK", "K", "K");
        check.due("STUCK", x.residual(1, 0), 400);
        check.due("its row", x.residual(1, NONE), 1);
        Check.goal(x, "3a");
        check.due("one clause", Check.drive(x), 2);
        check.due("kinds", Check.kinds(x), "41");
        Check.goal(x, "34ab");
        check.due("a call inside waits for nothing", Check.drive(x), 1);
        check.due("kinds", Check.kinds(x), "5");
    }

    private static void withoutParameters() {
        SuperDriver x = new SuperDriver();
        Check.function(x, 0, 1, false);
        Check.body(x, 0, NONE, "0a");
        Check.goal(x, "0K");
        check.due("drive()", Check.drive(x), 2);
        nodes(x, 0, 3, 6);
        nodes(x, 2, NONE, 0);
        nodes(x, 3, 1, 0);
        residuals(x, "r0", "r0");
        check.due("its row", x.residual(0, NONE), 1);
        check.due("its sign", x.residual(0, 0), 300);
    }

    private static void swappedParameters() {
        SuperDriver x = new SuperDriver();
        Check.function(x, 0, 3, true);
        Check.body(x, 0, 1, "0cab");
        Check.goal(x, "0cab");
        check.due("drive()", Check.drive(x), 2);
        nodes(x, 0, 4, 6);
        nodes(x, 2, 2, 0);
        terms(x, "f0 c a b", "f0 b x8 a");
        residuals(x, "r0 c a b", "r0 b x8 a");
        Check.function(x, 1, 2, false);
        Check.body(x, 1, NONE, "1ba");
        Check.goal(x, "1cMac");
        check.due("drive()", Check.drive(x), 3);
        nodes(x, 0, 3, 3, 6);
        nodes(x, 2, NONE, NONE, 0);
        nodes(x, 3, 1, 0, 0);
        terms(x, "f1 c M a c", "f1 M a c c", "f1 c M a c");
        residuals(x, "r0 c a", "r0 c a", "r0 c a");
    }

    private static void oneVariableForTheSamePair() {
        SuperDriver x = new SuperDriver();
        Check.function(x, 0, 2, false);
        Check.body(x, 0, NONE, "0LaLb");
        Check.goal(x, "0aa");
        check.due("drive()", Check.drive(x), 5);
        check.due("kinds", Check.kinds(x), "37621");
        check.due("new variables", x.node(1, 2), 1);
        terms(x, "f0 a a", "f0 L a L a", "f0 x8 x8", "L a", "a");
        Check.goal(x, "0ab");
        check.due("drive()", Check.drive(x), 7);
        check.due("kinds", Check.kinds(x), "3762211");
        check.due("new variables", x.node(1, 2), 2);
        terms(x, "f0 a b", "f0 L a L b", "f0 x8 x9", "L a", "L b", "a", "b");
        residuals(x, "r0 a b", "r0 L a L b", "r0 x8 x9", "L a", "L b", "a", "b");
    }

    /** What the variables stand for begins at other places in the two terms. */
    private static void standsForPartsOfTheLet() {
        SuperDriver x = new SuperDriver();
        Check.function(x, 1, 3, true);
        Check.body(x, 1, 2, "1bMacLd");
        Check.goal(x, "1aKN");
        check.due("drive()", Check.drive(x), 14);
        nodes(x, 0, 7, 0, 4, 1, 1, 1, 7, 6, 1, 2, 2, 1, 1, 1);
        nodes(x, 2, 3, NONE, 10, NONE, NONE, NONE, 3, 2, NONE, 2, 1, NONE, NONE, NONE);
        terms(x, "f1 a K N", "f1 x9 M x8 K L N", "f1 x10 x11 x12", "a", "K", "N",
            "f1 x14 M x13 x11 L x12", "f1 x15 x16 x17", "x14", "M x13 x11", "L x12");
        residuals(x, "r2 a K N", "", "r2 x10 x11 x12", "a", "K", "N", "r2 x14 M x13 x11 L x12");
    }

    private static void renamedOneForOne() {
        SuperDriver x = new SuperDriver();
        Check.function(x, 0, 2, false);
        Check.body(x, 0, NONE, "0aa");
        Check.goal(x, "0ab");
        check.due("two become one", Check.drive(x), 4);
        nodes(x, 0, 3, 7, 6, 1);
        terms(x, "f0 a b", "f0 a a", "f0 a x8", "a");
        residuals(x, "r0 a b", "r0 a a", "r0 a x8", "a");
        Check.function(x, 1, 2, true);
        Check.body(x, 1, 2, "1ab");
        Check.goal(x, "1aa");
        check.due("one becomes two", Check.drive(x), 6);
        nodes(x, 0, 7, 0, 4, 1, 1, 6);
        terms(x, "f1 a a", "f1 x8 x9", "f1 x10 x11", "a", "a", "f1 x12 x13");
        residuals(x, "r2 a a", "", "r2 x10 x11", "a", "a", "r2 x12 x13");
    }

    private static void variablesAreNotInConstructors() {
        SuperDriver x = new SuperDriver();
        Check.function(x, 0, 2, false);
        Check.body(x, 0, NONE, "0Kb");
        Check.goal(x, "0ab");
        check.due("drive()", Check.drive(x), 3);
        nodes(x, 0, 3, 3, 6);
        nodes(x, 2, NONE, NONE, 1);
        nodes(x, 3, 0, 1, 0);
        residuals(x, "r1 b", "r1 b", "r1 b");
    }

    private static void buildsKeepStepsApart() {
        SuperDriver x = new SuperDriver();
        Check.function(x, 0, 1, false);
        Check.body(x, 0, NONE, "L0a");
        Check.goal(x, "0a");
        check.due("no end", Check.drive(x), Check.UNSUPPORTED);
        check.due("no tree", x.node(0, 0), NONE);
        check.due("no term", x.term(0, NONE), NONE);
        check.due("no residual term", x.residual(0, NONE), NONE);
        Check.goal(x, "La");
        check.due("another goal", Check.drive(x), 2);
    }

    private static void splitWithAllClauses() {
        SuperDriver x = new SuperDriver();
        Check.function(x, 5, 2, true);
        String[] bodies = {"a", "Mab", "PcMba", "a", "b", "Pbc"};
        for (int c = 0; c < 6; c++) {
            check.due("body", Check.body(x, 5, c, bodies[c]), Check.DONE);
        }
        Check.goal(x, "5hMhg");
        check.due("drive()", Check.drive(x), 33);
        nodes(x, 0, 4, 2, 2, 2, 2, 2, 2, 1, 1, 1, 2, 2, 2, 1, 1, 2, 1, 1, 2, 2, 1, 2, 1, 1, 1, 1,
            2, 1, 1, 1, 1, 1, 1);
        terms(x, "f5 h M h g", "M K g", "M x8 M L x8 g", "P M M x9 x10 g M x10 x9", "M N g",
            "M O x11 g", "P x13 M P x12 x13 g");
        residuals(x, "r0 h g", "M K g", "M x8 M L x8 g", "P M M x9 x10 g M x10 x9", "M N g",
            "M O x11 g", "P x13 M P x12 x13 g");
        check.due("v", x.node(0, 2), 7);
    }

    private static void noSuchNode() {
        SuperDriver x = new SuperDriver();
        Check.goal(x, "La");
        check.due("no tree", x.node(0, 0), NONE);
        check.due("drive()", Check.drive(x), 2);
        int[] none = {-1, 2, 47, 48, Integer.MIN_VALUE, Integer.MAX_VALUE};
        for (int n : none) {
            for (int w = -1; w < 5; w++) {
                check.due("node(" + n + ", " + w + ")", x.node(n, w), NONE);
                check.due("term(" + n + ", " + w + ")", x.term(n, w), NONE);
                check.due("residual(" + n + ", " + w + ")", x.residual(n, w), NONE);
            }
        }
        int[] nothing = {-2, 4, Integer.MIN_VALUE, Integer.MAX_VALUE};
        for (int w : nothing) {
            check.due("node(0, " + w + ")", x.node(0, w), NONE);
            check.due("term(0, " + w + ")", x.term(0, w), NONE);
            check.due("residual(0, " + w + ")", x.residual(0, w), NONE);
        }
        check.due("node(0, NONE)", x.node(0, NONE), NONE);
        check.due("term(0, 1)", x.term(0, 1), 0);
        check.due("term(0, 2)", x.term(0, 2), NONE);
        check.due("residual(0, 1)", x.residual(0, 1), 0);
        check.due("residual(0, 2)", x.residual(0, 2), NONE);
    }

    private static void againAndAgain() {
        SuperDriver x = new SuperDriver();
        Check.function(x, 1, 2, true);
        Check.body(x, 1, 0, "a");
        Check.body(x, 1, 2, "1bMac");
        Check.goal(x, "1aK");
        for (int k = 0; k < 20; k++) {
            check.due("drive()", Check.drive(x), 13);
            check.due("kinds", Check.kinds(x), "7004111761211");
            check.due("new variables begin again", Check.term(x, 8), "f1 x14 x15");
        }
        Check.function(x, 0, 1, false);
        check.due("no tree", x.node(0, 0), NONE);
        check.due("the goal is there", Check.drive(x), 13);
    }

    private static void nodesUpTo47() {
        SuperDriver x = new SuperDriver();
        Check.function(x, 0, 1, false);
        Check.body(x, 0, NONE, "LLLLLLLLLLLLLLLLLLLLLK");
        Check.goal(x, "LM0K0K");
        check.due("48 nodes", Check.drive(x), 48);
        check.due("the last", x.node(47, 0), 1);
        Check.goal(x, "LLM0K0K");
        check.due("49 nodes", Check.drive(x), Check.UNSUPPORTED);
        check.due("no tree", x.node(0, 0), NONE);
        check.due("no run", Check.run(x, true, 5), Check.STATE);
        check.due("but of the program", Check.run(x, false, 5), 0);
    }

    private static void signsUpTo40() {
        SuperDriver x = new SuperDriver();
        Check.function(x, 0, 1, false);
        Check.body(x, 0, NONE, "LMaa");
        Check.goal(x, "0LLLLLLLLLLLLLLLLLLK");
        check.due("40 signs", Check.drive(x), 41);
        check.due("term(1, NONE)", x.term(1, NONE), 40);
        check.due("term(1, 39)", x.term(1, 39), 100);
        Check.body(x, 0, NONE, "Maa");
        Check.goal(x, "0LLLLLLLLLLLLLLLLLLLK");
        check.due("41 signs", Check.drive(x), Check.UNSUPPORTED);
        check.due("no tree", x.node(0, 0), NONE);
    }

    /** A split makes the term longer than a node may hold before its unfolding shortens it. */
    private static void shorterByUnfolding() {
        SuperDriver x = new SuperDriver();
        Check.function(x, 0, 2, true);
        Check.body(x, 0, 2, "a");
        Check.goal(x, "0aMaMaMaMaMaMaMaMaMaMaa");
        check.due("drive()", Check.drive(x), 2);
        terms(x, "f0 a M a M a M a M a M a M a M a M a M a M a a", "x8");
        residuals(x, "r0 a", "x8");
        Check.function(x, 1, 3, true);
        Check.body(x, 1, 2, "d");
        Check.goal(x, "1aMaMaMaMaMaMaMaMaMaMaab");
        check.due("drive()", Check.drive(x), 2);
        check.due("what stands last", Check.term(x, 1), "b");
    }

    private static SuperDriver manyVariables() {
        SuperDriver x = new SuperDriver();
        for (int f = 0; f < 5; f++) {
            Check.function(x, f, 1, true);
        }
        for (int f = 0; f < 5; f++) {
            Check.body(x, f, 2, f < 4 ? f + 1 + "a" : "b");
            Check.body(x, f, 5, f < 3 ? f + 1 + "a" : "b");
        }
        Check.goal(x, "0a");
        return x;
    }

    private static void variablesUpTo99() {
        SuperDriver x = manyVariables();
        check.due("92 new variables", Check.drive(x), 47);
        check.due("the last one", x.term(46, 0), 99);
        Check.body(x, 0, 3, "N");
        check.due("and one node more", Check.drive(x), 48);
        check.due("the last one", x.term(47, 0), 99);
        SuperDriver y = manyVariables();
        Check.body(y, 0, 1, "N");
        check.due("93 new variables", Check.drive(y), Check.UNSUPPORTED);
        check.due("no tree", y.node(0, 0), NONE);
    }

    private static void residualsUpTo100() {
        SuperDriver x = new SuperDriver();
        Check.function(x, 0, 3, true);
        for (int f = 1; f < 5; f++) {
            Check.function(x, f, 3, false);
        }
        Check.body(x, 4, NONE, "M0abc0abc");
        Check.body(x, 3, NONE, "M4abc4abc");
        Check.body(x, 2, NONE, "M3abc3abc");
        Check.body(x, 1, NONE, "LM2abc4abc");
        Check.goal(x, "1aMbMcMdeMfMgh");
        check.due("100 signs", Check.drive(x), 29);
        check.due("residual(0, NONE)", x.residual(0, NONE), 100);
        check.due("residual(0, 0)", x.residual(0, 0), 101);
        check.due("residual(0, 99)", x.residual(0, 99), 7);
        check.due("residual(0, 100)", x.residual(0, 100), NONE);
        Check.goal(x, "L1aMbMcMdeMfMgh");
        check.due("101 signs", Check.drive(x), Check.UNSUPPORTED);
        check.due("no tree", x.node(0, 0), NONE);
    }
}
