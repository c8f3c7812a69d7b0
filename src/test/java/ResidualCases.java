/** What the document says of the residual program. */
final class ResidualCases {
    private static final int NONE = SuperDriver.NONE;

    private final Check check;

    ResidualCases(Check check) {
        this.check = check;
    }

    void all() {
        functionsOfSplits();
        functionsOfSteps();
        targetOfAGoneFold();
        parameters();
        noParameters();
        parametersOfASplit();
        ofALeaf();
        ofAStuckNode();
        ofABuild();
        ofANodeWithAFunction();
        ofAStep();
        ofAFold();
        ofALet();
        ofALetThatDropsAndDoubles();
        plainFunction();
        plainFunctionWithManyParts();
        plainFunctionThatChangesParts();
        casedFunction();
        casedFunctionWithChangedParts();
    }

    private void functionsOfSplits() {
        check.by(Document.TERMS, "Each node 4 has a residual function");
        SuperDriver x = check.program("0/1/cased", "1/2/cased L=0b K=a");
        check.driven(x, "M0a1bc", 5);
        check.kinds(x, "24414");
        check.nodes(x, 3, 0, 1, 1, 0, 1);
        check.residuals(x, "M r1 a r2 b c", "r1 a", "r2 b c", "c", "r4 c");
    }

    private void functionsOfSteps() {
        check.by(Document.TERMS, "and each node 3 that is the target of a FOLD");
        SuperDriver x = check.program("0/1/plain 1a", "1/1/plain 2a", "2/1/plain 1a",
            "3/1/plain La");
        check.driven(x, "M0b3b", 8);
        check.kinds(x, "23332316");
        check.nodes(x, 2, 2, NONE, NONE, NONE, 1, NONE, NONE, 3);
        check.nodes(x, 3, 0, 0, 0, 1, 0, 0, 0, 0);
    }

    /** Node 0 was the target of node 3, which went with all that was below node 1. */
    private void targetOfAGoneFold() {
        check.by(Document.TERMS, "each node 3 that is the target of a FOLD");
        SuperDriver x = check.program("0/1/plain 1KKLK", "1/3/cased K=01Kbb");
        check.driven(x, "0b", 10);
        check.kinds(x, "3700031336");
        check.terms(x, "f0 b", "f1 K K L K", "f0 f1 K L K L K", "f0 x8", "f1 K L K L K",
            "f1 K x9 L K", "K", "f0 f1 K L K L K", "f1 K K L K", "f0 f1 K L K L K");
        check.nodes(x, 2, NONE, 1, NONE, NONE, NONE, NONE, NONE, NONE, NONE, 7);
        check.nodes(x, 3, 0, 0, 0, 0, 0, 0, 0, 1, 0, 0);
        check.residuals(x, "r7", "r7", "", "", "", "r7", "K", "r7", "r7", "r7");
    }

    private void parameters() {
        check.by(Document.TERMS, "Its PARAMETERS are the variables of the node's term in the order in"
            + " which they first come");
        SuperDriver x = check.program("1/3/plain 1abc");
        check.driven(x, "1MhcMaLMchMbMaa", 2);
        check.residuals(x, "r0 h c a b", "r0 h c a b");
        check.driven(x, "1gfe", 2);
        check.residuals(x, "r0 g f e", "r0 g f e");
        check.driven(x, "1aaa", 2);
        check.residuals(x, "r0 a", "r0 a");
    }

    private void noParameters() {
        check.by(Document.TERMS, "Its PARAMETERS are the variables of the node's term");
        SuperDriver x = check.program("0/1/plain 0a");
        check.driven(x, "0LK", 2);
        check.nodes(x, 3, 1, 0);
        check.residuals(x, "r0", "r0");
        check.due("its row", x.residual(0, NONE), 1);
        check.due("its sign", x.residual(0, 0), 300);
        check.runs(x, true, 4, 2, 4, "");
    }

    private void parametersOfASplit() {
        check.by(Document.TERMS, "(for a node 4: first v, then the others so)");
        SuperDriver x = check.program("0/3/cased", "1/2/cased");
        check.driven(x, "0bMcab", 1);
        check.residuals(x, "r0 b c a");
        check.driven(x, "01hgMahd", 1);
        check.due("v", x.node(0, 2), 7);
        check.residuals(x, "r0 h g a d");
    }

    private void ofALeaf() {
        check.by(Document.TERMS, "RESIDUAL TERMS: of a LEAF its term");
        SuperDriver x = new SuperDriver();
        for (String goal : new String[] {"a", "h", "K", "N"}) {
            check.driven(x, goal, 1);
            check.residuals(x, goal);
        }
    }

    private void ofAStuckNode() {
        check.by(Document.TERMS, "of a node 5 STUCK");
        SuperDriver x = check.program("0/2/plain", "1/1/cased L=a");
        for (String goal : new String[] {"0ab", "1K", "10ab"}) {
            check.driven(x, goal, 1);
            check.residuals(x, "STUCK");
            check.due("its row", x.residual(0, NONE), 1);
        }
    }

    private void ofABuild() {
        check.by(Document.TERMS, "of a BUILD its constructor and the residual terms of the nodes below"
            + " it");
        SuperDriver x = check.program("0/1/cased", "1/1/plain MaLa", "2/1/plain");
        check.driven(x, "PM0b1cO2d", 10);
        check.residuals(x, "P M r3 b M c L c O STUCK", "M r3 b M c L c", "O STUCK", "r3 b",
            "M c L c", "STUCK");
    }

    private void ofANodeWithAFunction() {
        check.by(Document.TERMS, "of a node with a residual function that with its parameters as"
            + " parts");
        SuperDriver x = check.program("0/2/cased L=K", "1/2/plain 1ba");
        check.driven(x, "M0bLc1ba", 5);
        check.kinds(x, "24316");
        check.residuals(x, "M r1 b c r2 b a", "r1 b c", "r2 b a", "K", "r2 a b");
        // What stands behind its parts is none of them.
        SuperDriver y = check.program("0/2/cased K=a L=Mab");
        check.due("goal", Check.goal(y, "M0abP0bcN"), Check.DONE);
        check.dueTrue("drive()", Check.drive(y) > 0);
        check.residuals(y, "M r1 a b P r5 b c N");
        check.dueTrue("input", Check.input(y, 0, "LN"));
        check.dueTrue("input", Check.input(y, 1, "K"));
        check.dueTrue("input", Check.input(y, 2, "OK"));
        check.runs(y, true, 9, 0, 2, "MMNKPOKN");
        check.runs(y, false, 9, 0, 2, "MMNKPOKN");
    }

    private void ofAStep() {
        check.by(Document.TERMS, "of a STEP without one that of the node below");
        SuperDriver x = check.program("0/1/plain 1LaK", "1/2/plain Mba", "2/1/plain");
        check.driven(x, "0c", 6);
        check.kinds(x, "332121");
        check.residuals(x, "M K L c", "M K L c", "M K L c", "K", "L c", "c");
        check.nodes(x, 3, 0, 0, 0, 0, 0, 0);
    }

    private void ofAFold() {
        check.by(Document.TERMS, "of a FOLD the target's residual function with, for each parameter,"
            + " the variable that it was changed into");
        SuperDriver x = check.program("0/3/cased L=0cab", "1/3/plain 1bca");
        check.driven(x, "0cab", 2);
        check.residuals(x, "r0 c a b", "r0 b x8 a");
        check.driven(x, "1abc", 2);
        check.residuals(x, "r0 a b c", "r0 b c a");
        check.driven(x, "1hMabMba", 4);
        check.kinds(x, "3336");
        check.residuals(x, "r0 h a b", "r0 h a b", "r0 h a b", "r0 h a b");
    }

    private void ofALet() {
        check.by(Document.TERMS, "of a LET that of the first node below with, for each new variable,"
            + " the residual term of its node in its place");
        SuperDriver x = check.program("1/2/cased K=a M=1bMac", "2/1/plain 2La");
        check.driven(x, "1aK", 13);
        check.residuals(x, "r3 a K", "", "", "r3 x10 x11", "a", "K", "x11", "r3 x13 M x12 x11",
            "r3 x14 x15", "x13", "M x12 x11", "x12", "x11");
        check.driven(x, "2a", 5);
        check.residuals(x, "r0 a", "r0 L a", "r0 x8", "L a", "a");
    }

    private void ofALetThatDropsAndDoubles() {
        check.by(Document.TERMS, "for each new variable, the residual term of its node in its place");
        SuperDriver x = check.program("0/1/plain 10aLa", "1/2/plain Mbb");
        check.driven(x, "0a", 9);
        check.kinds(x, "373622111");
        check.residuals(x, "r0 a", "M L a L a", "M x9 x9", "r0 a", "L a", "M x9 x9", "a", "x9",
            "x9");
    }

    // ---- the residual functions ----

    private void plainFunction() {
        check.by(Document.TERMS, "The function of a node 3 is plain, its body the residual term of the"
            + " node below");
        SuperDriver x = check.program("0/1/plain 10aLa", "1/2/plain Mbb");
        check.driven(x, "0a", 9);
        check.dueTrue("input", Check.input(x, 0, "OK"));
        check.runs(x, true, 5, 0, 1, "MLOKLOK");
        check.runs(x, false, 5, 0, 2, "MLOKLOK");
    }

    private void plainFunctionWithManyParts() {
        check.by(Document.TERMS, "The function of a node 3 is plain");
        SuperDriver x = check.program("0/3/plain 10abcMaMbc", "1/2/plain Pbb");
        check.driven(x, "P0cabN", 14);
        check.kinds(x, "23173622121111");
        check.residuals(x, "P r1 c a b N", "r1 c a b");
        check.dueTrue("input", Check.input(x, 2, "N"));
        check.dueTrue("input", Check.input(x, 0, "OK"));
        check.dueTrue("input", Check.input(x, 1, "LN"));
        check.runs(x, true, 5, 0, 1, "PPMNMOKLNMNMOKLNN");
        check.runs(x, false, 5, 0, 2, "PPMNMOKLNMNMOKLNN");
    }

    private void plainFunctionThatChangesParts() {
        check.by(Document.TERMS, "its body the residual term of the node below");
        SuperDriver x = check.program("1/2/plain 1ba", "2/1/plain 2La");
        check.driven(x, "1cMac", 3);
        check.dueTrue("input", Check.input(x, 0, "K"));
        check.dueTrue("input", Check.input(x, 2, "LN"));
        check.runs(x, false, 50, 2, 50, "");
        check.runs(x, true, 50, 2, 50, "");
        // r0 a is r0 L a: the row has two signs, and one more with each step.
        check.driven(x, "2a", 5);
        check.runs(x, true, 198, 2, 198, "");
        check.runs(x, true, 199, 3, 199, "");
    }

    private void casedFunction() {
        check.by(Document.TERMS, "that of a node 4 is cased, with a clause for each node below, whose"
            + " body is that node's residual term");
        SuperDriver x = check.program("0/2/cased K=a L=Mab M=PcMba N=a O=b", "1/1/cased");
        check.dueTrue("input", Check.input(x, 1, "N"));
        check.driven(x, "0ab", 12);
        String[] values = {"K", "LON", "MLKN", "N", "OK", "PKN"};
        String[] results = {"N", "MONN", "PNMNLK", "N", "N", null};
        for (int c = 0; c < 6; c++) {
            check.dueTrue("input", Check.input(x, 0, values[c]));
            boolean is = results[c] != null;
            check.runs(x, true, 5, is ? 0 : 1, is ? 1 : 0, is ? results[c] : "");
            check.runs(x, false, 5, is ? 0 : 1, is ? 1 : 0, is ? results[c] : "");
        }
        check.driven(x, "1a", 1);
        for (String value : values) {
            check.dueTrue("input", Check.input(x, 0, value));
            check.runs(x, true, 5, 1, 0, "");
        }
    }

    private void casedFunctionWithChangedParts() {
        check.by(Document.TERMS, "what stands there for v's new variables are the constructor's parts");
        SuperDriver x = check.program("0/3/cased L=0cab N=Mab M=Pba P=Pab");
        check.due("goal", Check.goal(x, "0cab"), Check.DONE);
        check.dueTrue("drive()", Check.drive(x) > 0);
        check.dueTrue("input", Check.input(x, 2, "LLN"));
        check.dueTrue("input", Check.input(x, 0, "LOK"));
        check.dueTrue("input", Check.input(x, 1, "LN"));
        // 0(LLN, LOK, LN) is 0(LN, LN, LOK), 0(LOK, N, LN), 0(LN, OK, N), 0(N, N, OK), M N OK.
        check.runs(x, false, 50, 0, 5, "MNOK");
        check.runs(x, true, 50, 0, 5, "MNOK");
        check.dueTrue("input", Check.input(x, 2, "MKLN"));
        check.runs(x, true, 50, 0, 1, "PLNK");
        check.dueTrue("input", Check.input(x, 2, "PKLN"));
        check.runs(x, true, 50, 0, 1, "PKLN");
    }
}
