/** What the document says of drive, node, term and residual: promises 9 to 12. */
final class NodeCases {
    private static final int NONE = SuperDriver.NONE;

    private final Check check;

    NodeCases(Check check) {
        this.check = check;
    }

    void all() {
        howManyNodes();
        driveAgain();
        driveWithoutGoal();
        whatItIs();
        aboveIt();
        whatIsOfIt();
        residualFunction();
        goneNode();
        noSuchNode();
        noTree();
        noSuchW();
        signsOfATerm();
        termAsItWasMade();
        howManySigns();
        noSuchSign();
        signsOfAResidualTerm();
        howManyResidualSigns();
        noSuchResidualSign();
        noResidualTermOfAGoneNode();
    }

    /** A tree in which there is each of what a node can be. */
    private SuperDriver everyKind() {
        SuperDriver x = check.program("1/2/cased K=a M=1bMac", "2/1/plain", "3/1/plain LP2aa");
        check.driven(x, "M1aK3b", 19);
        check.kinds(x, "2730024112175161211");
        return x;
    }

    // ---- promise 9 ----

    private void howManyNodes() {
        check.by(Document.DRIVE, "The goal is driven: how many nodes were made");
        SuperDriver x = check.program("1/2/cased K=a M=1bMac");
        check.driven(x, "K", 1);
        check.driven(x, "MKLa", 4);
        // Two of these are gone.
        check.driven(x, "1aK", 13);
        check.due("the last one", x.node(12, 0), 1);
        check.due("behind it", x.node(13, 0), NONE);
    }

    private void driveAgain() {
        check.by(Document.DRIVE, "The goal is driven");
        SuperDriver x = everyKind();
        for (int time = 0; time < 5; time++) {
            check.due("drive() again", Check.drive(x), 19);
            check.kinds(x, "2730024112175161211");
        }
        // Less than there was before: nothing of that is left.
        check.driven(x, "LK", 2);
        check.kinds(x, "21");
        check.residuals(x, "L K", "K");
        check.nodes(x, 3, 0, 0);
        check.due("a node of the tree before", x.term(2, NONE), NONE);
    }

    private void driveWithoutGoal() {
        check.by(Document.DRIVE, "IllegalStateException if there is no goal");
        SuperDriver x = check.program("0/1/plain K");
        check.due("drive()", Check.drive(x), Check.STATE);
        Check.type(x, "0K");
        check.due("a text is no goal", Check.drive(x), Check.STATE);
        check.due("goal()", Check.goal(x), Check.DONE);
        check.due("drive()", Check.drive(x), 2);
        x.forget();
        check.due("drive()", Check.drive(x), Check.STATE);
        Check.goal(x, "KK");
        check.due("what was refused is no goal", Check.drive(x), Check.STATE);
    }

    // ---- promise 10 ----

    private void whatItIs() {
        check.by(Document.NODE, "w = 0: what it is, 0 .. 7");
        SuperDriver x = everyKind();
        check.nodes(x, 0, 2, 7, 3, 0, 0, 2, 4, 1, 1, 2, 1, 7, 5, 1, 6, 1, 2, 1, 1);
    }

    private void aboveIt() {
        check.by(Document.NODE, "1: the node above it (NONE for node 0)");
        SuperDriver x = everyKind();
        check.nodes(x, 1, NONE, 0, 0, 1, 1, 2, 1, 1, 1, 5, 6, 6, 9, 9, 11, 11, 11, 16, 16);
    }

    private void whatIsOfIt() {
        check.by(Document.NODE, "2: of a BUILD its constructor 0 .. 5, of a SPLIT v, of a FOLD its"
            + " target, of a LET how many new variables G has; of others NONE");
        SuperDriver x = everyKind();
        check.nodes(x, 2, 2, 2, NONE, NONE, NONE, 1, 10, NONE, NONE, 5, NONE, 2, NONE, NONE, 6, NONE,
            2, NONE, NONE);
        SuperDriver y = check.program("0/1/cased", "1/3/plain 1LaLaLc", "2/2/plain 2ba");
        String[] builds = {"Lh", "Mhh", "Oh", "Phh"};
        int[] constructors = {1, 2, 4, 5};
        for (int k = 0; k < 4; k++) {
            check.driven(y, builds[k], builds[k].length());
            check.due("of " + builds[k], y.node(0, 2), constructors[k]);
            check.due("of its part", y.node(1, 2), NONE);
        }
        for (int v = 0; v < 8; v++) {
            check.driven(y, "0" + (char) ('a' + v), 1);
            check.due("v", y.node(0, 2), v);
        }
        check.driven(y, "1aab", 7);
        check.kinds(y, "3762211");
        check.nodes(y, 2, NONE, 2, 0, 1, 1, NONE, NONE);
        check.driven(y, "LL2LKh", 5);
        check.kinds(y, "22336");
        check.nodes(y, 2, 1, 1, NONE, NONE, 2);
    }

    private void residualFunction() {
        check.by(Document.NODE, "3: 1 if it has a residual function, otherwise 0");
        SuperDriver x = everyKind();
        check.nodes(x, 3, 0, 0, 0, 0, 0, 0, 1, 0, 0, 0, 0, 0, 0, 0, 0, 0, 0, 0, 0);
        SuperDriver y = check.program("2/2/plain 2ba", "3/1/plain 2aa");
        check.driven(y, "3a", 3);
        check.kinds(y, "336");
        check.nodes(y, 3, 0, 1, 0);
    }

    private void goneNode() {
        check.by(Document.NODE, "A node that is gone has its term and the node above it, but NONE for"
            + " 2 and 0 for 3");
        SuperDriver x = check.program("0/2/cased L=M1aP0aLb0aLLb", "1/1/cased M=1b");
        check.driven(x, "0aK", 25);
        check.kinds(x, "7000000411242677612612121");
        // Before they went, these were BUILD, SPLIT, BUILD, FOLD, the one that grew, and an open one.
        String[] terms = {"M f1 x8 P f0 x8 L K f0 x8 L L K", "f1 x8", "P f0 x8 L K f0 x8 L L K",
            "f1 x10", "f0 x8 L K", "f0 x8 L L K"};
        int[] above = {0, 1, 1, 2, 3, 3};
        for (int n = 1; n <= 6; n++) {
            check.due("term of node " + n, Check.term(x, n), terms[n - 1]);
            check.due("node(" + n + ", 1)", x.node(n, 1), above[n - 1]);
            check.due("node(" + n + ", 2)", x.node(n, 2), NONE);
            check.due("node(" + n + ", 3)", x.node(n, 3), 0);
        }
        // Of these, node 2 was a LET, node 3 a FOLD.
        SuperDriver y = check.program("0/1/plain 1KKLK", "1/3/cased K=01Kbb");
        check.driven(y, "0b", 10);
        check.nodes(y, 0, 3, 7, 0, 0, 0, 3, 1, 3, 3, 6);
        check.nodes(y, 1, NONE, 0, 1, 2, 2, 1, 1, 5, 7, 8);
        check.nodes(y, 2, NONE, 1, NONE, NONE, NONE, NONE, NONE, NONE, NONE, 7);
    }

    private void noSuchNode() {
        check.by(Document.NODE, "NONE if there is no such node");
        SuperDriver x = new SuperDriver();
        check.driven(x, "La", 2);
        for (int n : new int[] {-1, 2, 3, 47, 48, -2, 300, Integer.MIN_VALUE, Integer.MAX_VALUE}) {
            for (int w = -1; w < 5; w++) {
                check.due("node(" + n + ", " + w + ")", x.node(n, w), NONE);
            }
        }
        check.due("the last one", x.node(1, 0), 1);
    }

    private void noTree() {
        check.by(Document.NODE, "no tree");
        SuperDriver never = new SuperDriver();
        SuperDriver noMore = new SuperDriver();
        check.driven(noMore, "La", 2);
        check.due("goal", Check.goal(noMore, "La"), Check.DONE);
        for (int n = -1; n < 49; n++) {
            for (int w = -1; w < 5; w++) {
                check.due("node(" + n + ", " + w + ")", never.node(n, w), NONE);
                check.due("node(" + n + ", " + w + ")", noMore.node(n, w), NONE);
            }
        }
    }

    private void noSuchW() {
        check.by(Document.NODE, "or no such w");
        SuperDriver x = everyKind();
        for (int n = 0; n < 19; n++) {
            for (int w : new int[] {-1, 4, -2, 5, Integer.MIN_VALUE, Integer.MAX_VALUE}) {
                check.due("node(" + n + ", " + w + ")", x.node(n, w), NONE);
            }
        }
    }

    // ---- promise 11 ----

    private void signsOfATerm() {
        check.by(Document.TERM, "Sign i of the term of node n");
        SuperDriver x = everyKind();
        int[] goal = {102, 201, 0, 100, 203, 1};
        for (int i = 0; i < goal.length; i++) {
            check.due("term(0, " + i + ")", x.term(0, i), goal[i]);
        }
        int[] gone = {201, 9, 102, 8, 100};
        for (int i = 0; i < gone.length; i++) {
            check.due("term(4, " + i + ")", x.term(4, i), gone[i]);
        }
    }

    private void termAsItWasMade() {
        check.by(Document.TERM, "as it was when the node was made, as a number");
        SuperDriver x = everyKind();
        // A node that became LET, nodes that are gone.
        check.terms(x, "M f1 a K f3 b", "f1 a K", "f3 b", "K", "f1 x9 M x8 K", "L P f2 b b",
            "f1 x10 x11", "a", "K", "P f2 b b");
    }

    private void howManySigns() {
        check.by(Document.TERM, "how many there are, if i is NONE");
        SuperDriver x = everyKind();
        int[] lengths = {6, 3, 2, 1, 5, 5, 3, 1, 1, 4};
        for (int n = 0; n < lengths.length; n++) {
            check.due("term(" + n + ", NONE)", x.term(n, NONE), lengths[n]);
        }
    }

    private void noSuchSign() {
        check.by(Document.TERM, "NONE if there is none such");
        SuperDriver x = new SuperDriver();
        check.due("no tree", x.term(0, NONE), NONE);
        check.due("no tree", x.term(0, 0), NONE);
        check.driven(x, "La", 2);
        check.due("the last sign", x.term(0, 1), 0);
        for (int i : new int[] {2, -2, 3, 40, 41, Integer.MIN_VALUE, Integer.MAX_VALUE}) {
            check.due("term(0, " + i + ")", x.term(0, i), NONE);
        }
        check.due("term(1, 1)", x.term(1, 1), NONE);
        for (int n : new int[] {-1, 2, 47, 48, Integer.MIN_VALUE, Integer.MAX_VALUE}) {
            for (int i = -2; i < 3; i++) {
                check.due("term(" + n + ", " + i + ")", x.term(n, i), NONE);
            }
        }
        // The tree before had longer terms.
        check.driven(x, "LLLLLLK", 7);
        check.driven(x, "La", 2);
        check.due("term(0, 2)", x.term(0, 2), NONE);
        check.due("term(2, 0)", x.term(2, 0), NONE);
    }

    // ---- promise 12 ----

    private void signsOfAResidualTerm() {
        check.by(Document.RESIDUAL, "Sign i of the residual term of node n, as a number");
        SuperDriver x = everyKind();
        int[] signs = {102, 306, 0, 100, 101, 105, 400, 1};
        for (int i = 0; i < signs.length; i++) {
            check.due("residual(0, " + i + ")", x.residual(0, i), signs[i]);
        }
        check.residuals(x, "M r6 a K L P STUCK b", "r6 a K", "L P STUCK b", "", "",
            "L P STUCK b", "r6 x10 x11");
    }

    private void howManyResidualSigns() {
        check.by(Document.RESIDUAL, "how many there are, if i is NONE");
        SuperDriver x = everyKind();
        int[] lengths = {8, 3, 4, NONE, NONE, 4, 3, 1, 1, 3};
        for (int n = 0; n < lengths.length; n++) {
            check.due("residual(" + n + ", NONE)", x.residual(n, NONE), lengths[n]);
        }
    }

    private void noSuchResidualSign() {
        check.by(Document.RESIDUAL, "NONE if there is none such");
        SuperDriver x = new SuperDriver();
        check.due("no tree", x.residual(0, NONE), NONE);
        check.due("no tree", x.residual(0, 0), NONE);
        check.driven(x, "La", 2);
        check.due("the last sign", x.residual(0, 1), 0);
        for (int i : new int[] {2, -2, 3, 100, 101, Integer.MIN_VALUE, Integer.MAX_VALUE}) {
            check.due("residual(0, " + i + ")", x.residual(0, i), NONE);
        }
        check.due("residual(1, 1)", x.residual(1, 1), NONE);
        for (int n : new int[] {-1, 2, 47, 48, Integer.MIN_VALUE, Integer.MAX_VALUE}) {
            for (int i = -2; i < 3; i++) {
                check.due("residual(" + n + ", " + i + ")", x.residual(n, i), NONE);
            }
        }
        check.driven(x, "LLLLLLK", 7);
        check.driven(x, "La", 2);
        check.due("residual(0, 2)", x.residual(0, 2), NONE);
        check.due("residual(2, 0)", x.residual(2, 0), NONE);
    }

    private void noResidualTermOfAGoneNode() {
        check.by(Document.RESIDUAL, "or the node is gone");
        SuperDriver x = everyKind();
        for (int n = 3; n <= 4; n++) {
            check.due("a node that is gone", x.node(n, 0), 0);
            for (int i = -2; i < 6; i++) {
                check.due("residual(" + n + ", " + i + ")", x.residual(n, i), NONE);
            }
        }
    }
}
