/** What the document says of TOO GREAT: each limit is met, and gone beyond, in each way. */
final class LimitCases {
    private static final int NONE = SuperDriver.NONE;
    private static final String GREAT = "It is TOO GREAT if there would be ";

    private final Check check;

    LimitCases(Check check) {
        this.check = check;
    }

    void all() {
        nodesByAStep();
        nodesByABuild();
        nodesByASplit();
        nodesByALet();
        nodesThatAreGone();
        nodesWithoutEnd();
        signsByAStep();
        signsByASplit();
        signsBeforeUnfolding();
        fortySignsBeforeUnfolding();
        rivalsOfFortySigns();
        variablesBySplits();
        variableThatIsDropped();
        residualTermOfNodeZero();
        residualTermOfAnotherNode();
        residualTermsOfGoneNodes();
        longResidualTermsOfGoneNodes();
        noTreeThen();
    }

    /** The chain with so many nodes before it is as long as can be; one more is too long. */
    private void chainFits(int before, int parts, String... program) {
        for (int less = 2; less >= 0; less--) {
            SuperDriver x = check.program(program);
            check.chain(x, before - less, 0, parts);
            check.due("drive()", Check.drive(x), 48 - less);
            check.dueTrue("the last node", x.node(47 - less, 0) != NONE);
            check.due("no more", x.node(48 - less, 0), NONE);
        }
        for (int more = 1; more <= 3; more++) {
            SuperDriver x = check.program(program);
            check.chain(x, before + more, 0, parts);
            tooGreat(x);
        }
    }

    private void tooGreat(SuperDriver x) {
        check.due("drive()", Check.drive(x), Check.UNSUPPORTED);
        check.dueFalse("the tree", Check.hasTree(x));
    }

    private void nodesByAStep() {
        check.by(Document.TERMS, GREAT + "a node above 47");
        chainFits(46, 1, "0/1/plain K");
    }

    private void nodesByABuild() {
        check.by(Document.TERMS, GREAT + "a node above 47");
        chainFits(44, 1, "0/1/plain MaK");
        chainFits(45, 1, "0/1/plain La");
    }

    private void nodesByASplit() {
        check.by(Document.TERMS, GREAT + "a node above 47");
        chainFits(45, 1, "0/1/cased K=K N=N");
        chainFits(41, 2, "0/2/cased K=K L=N M=a N=a O=b P=c");
        chainFits(47, 3, "0/3/cased");
    }

    private void nodesByALet() {
        check.by(Document.TERMS, GREAT + "a node above 47");
        chainFits(44, 2, "0/2/plain 0aa");
        chainFits(42, 2, "0/2/plain 0bLa");
    }

    private void nodesThatAreGone() {
        check.by(Document.TERMS, GREAT + "a node above 47");
        chainFits(34, 1, "0/1/plain 1aK", "1/2/cased K=a M=1bMac");
    }

    private void nodesWithoutEnd() {
        check.by(Document.TERMS, GREAT + "a node above 47");
        SuperDriver x = check.program("0/1/plain L0a", "1/1/plain M1a1a", "2/1/cased L=L22a");
        for (String goal : new String[] {"0a", "0K", "1a", "M0a1b"}) {
            check.due("goal", Check.goal(x, goal), Check.DONE);
            tooGreat(x);
        }
    }

    private void signsByAStep() {
        check.by(Document.TERMS, "a term of more than 40 signs in a node");
        SuperDriver x = check.program("0/1/plain LMaa", "1/1/plain OLMaa", "2/1/plain Maa",
            "3/3/plain c");
        check.driven(x, "0LLLLLLLLLLLLLLLLLLK", 41);
        check.due("term(1, NONE)", x.term(1, NONE), 40);
        check.due("term(1, 39)", x.term(1, 39), 100);
        check.due("term(1, 40)", x.term(1, 40), NONE);
        check.due("goal", Check.goal(x, "1LLLLLLLLLLLLLLLLLLK"), Check.DONE);
        tooGreat(x);
        check.due("goal", Check.goal(x, "2LLLLLLLLLLLLLLLLLLLK"), Check.DONE);
        tooGreat(x);
        // A long term may become a short one.
        check.driven(x, "3LLLLLLLLLLMaMaMaMaMbKKN", 2);
        check.terms(x, "f3 L L L L L L L L L L M a M a M a M a M b K K N", "N");
    }

    private void signsByASplit() {
        check.by(Document.TERMS, "a term of more than 40 signs in a node");
        SuperDriver x = check.program("0/2/cased L=MaMbMbb", "1/2/cased K=N L=LMaMbMbb");
        check.driven(x, "0aLLLLLLLLLLLK", 41);
        check.due("term(1, NONE)", x.term(1, NONE), 40);
        check.due("goal", Check.goal(x, "1aLLLLLLLLLLLK"), Check.DONE);
        tooGreat(x);
        // What is in place of v counts, too.
        check.driven(x, "0aLLLLLLLLLLa", 41);
        check.due("term(1, NONE)", x.term(1, NONE), 40);
        check.due("goal", Check.goal(x, "0aLLLLLLLLLLLa"), Check.DONE);
        tooGreat(x);
    }

    /** A split makes the term longer than a node may hold before its unfolding shortens it. */
    private void signsBeforeUnfolding() {
        check.by(Document.TERMS, "signs in a node");
        SuperDriver x = check.program("0/2/cased M=a", "1/3/cased M=d");
        check.driven(x, "0aMaMaMaMaMaMaMaMaMaMaa", 2);
        check.terms(x, "f0 a M a M a M a M a M a M a M a M a M a M a a", "x8");
        check.residuals(x, "r0 a", "x8");
        check.driven(x, "1aMaMaMaMaMaMaMaMaMaMaab", 2);
        check.due("what stands last", Check.term(x, 1), "b");
    }

    /** 26 of 40 signs are v, and each of them becomes three. */
    private void fortySignsBeforeUnfolding() {
        check.by(Document.TERMS, "each with a term of at most 40 signs");
        SuperDriver x = check.program("0/3/cased M=d", "1/3/plain 0a7bb77aaa7aaaac", "7/3/plain");
        check.driven(x, "1a77aaa7aaa7aaah", 3);
        check.kinds(x, "341");
        check.due("term(1, NONE)", x.term(1, NONE), 40);
        check.due("what stands last", Check.term(x, 2), "h");
        check.residuals(x, "r1 a h", "r1 a h", "h");
    }

    private void rivalsOfFortySigns() {
        check.by(Document.TERMS, "each with a term of at most 40 signs");
        SuperDriver x = check.program("0/1/plain 0LMaMaa", "1/3/plain 2abLLMcMcc", "2/3/plain 2aac",
            "3/3/plain 4abLLMcMcc", "4/3/plain 4bac");
        // The lower one has 40.
        check.driven(x, "0LLLLLLLLLLLb", 24);
        check.kinds(x, "703272622222122211222221");
        check.due("term(0, NONE)", x.term(0, NONE), 13);
        check.due("term(1, NONE)", x.term(1, NONE), 40);
        // Both have 40, and the lower one is made more general.
        check.driven(x, "1abLLLLLLLLLLc", 5);
        check.kinds(x, "33761");
        for (int n = 1; n <= 3; n++) {
            check.due("term(" + n + ", NONE)", x.term(n, NONE), 40);
        }
        check.residuals(x, "r1 a b c", "r1 a b c", "r1 a a c", "r1 a x8 c", "a");
        // Both have 40, and the lower one is a renaming.
        check.driven(x, "3abLLLLLLLLLLc", 3);
        check.kinds(x, "336");
        check.residuals(x, "r1 a b c", "r1 a b c", "r1 b a c");
    }

    /** Each SPLIT takes four variables for two nodes, so these come to their end before nodes do. */
    private SuperDriver manyVariables(String more) {
        return check.program("0/1/cased M=1a P=1a" + more, "1/1/cased M=2a P=2a",
            "2/1/cased M=3a P=3a", "3/1/cased M=4a P=b", "4/1/cased M=b P=b");
    }

    private void variablesBySplits() {
        check.by(Document.TERMS, "a variable above 99");
        SuperDriver x = manyVariables("");
        check.driven(x, "0a", 47);
        check.due("the last one", x.term(46, 0), 99);
        check.due("and one node more", Check.body(x, 0, 3, "N"), Check.DONE);
        check.due("drive()", Check.drive(x), 48);
        check.due("the last one", x.term(47, 0), 99);
        SuperDriver y = manyVariables(" O=N");
        check.due("goal", Check.goal(y, "0a"), Check.DONE);
        tooGreat(y);
        SuperDriver z = manyVariables(" L=N");
        check.due("goal", Check.goal(z, "0a"), Check.DONE);
        tooGreat(z);
    }

    /** It comes when v becomes the constructor, before the unfolding leaves it out. */
    private void variableThatIsDropped() {
        check.by(Document.TERMS, "a variable above 99");
        SuperDriver x = manyVariables("");
        check.due("body", Check.body(x, 4, 5, "a"), Check.DONE);
        check.driven(x, "0a", 47);
        check.due("the last one but one", x.term(46, 0), 98);
        check.due("body", Check.body(x, 0, 1, "N"), Check.DONE);
        tooGreat(x);
    }

    // ---- residual terms ----

    private SuperDriver longResidualTerms() {
        return check.program("0/3/cased", "4/3/plain M0abc0abc", "3/3/plain M4abc4abc",
            "2/3/plain M3abc3abc", "1/3/plain LM2abc4abc", "5/3/cased O=1abc L=K",
            "6/3/cased O=O1abc L=K", "7/3/plain 1abc");
    }

    private void residualTermOfNodeZero() {
        check.by(Document.TERMS, "or a residual term of a node (that is not gone) of more than 100"
            + " signs");
        SuperDriver x = longResidualTerms();
        check.driven(x, "1aMbMcMdeMfMgh", 29);
        check.due("residual(0, NONE)", x.residual(0, NONE), 100);
        check.due("residual(0, 0)", x.residual(0, 0), 101);
        check.due("residual(0, 99)", x.residual(0, 99), 7);
        check.due("residual(0, 100)", x.residual(0, 100), NONE);
        check.driven(x, "7aMbMcMdeMfMgh", 30);
        check.due("residual(0, NONE)", x.residual(0, NONE), 100);
        check.due("goal", Check.goal(x, "L1aMbMcMdeMfMgh"), Check.DONE);
        tooGreat(x);
    }

    private void residualTermOfAnotherNode() {
        check.by(Document.TERMS, "a residual term of a node");
        SuperDriver x = longResidualTerms();
        check.driven(x, "5aMbMcMdeMfMgh", 31);
        check.due("residual(0, NONE)", x.residual(0, NONE), 9);
        check.due("residual(2, NONE)", x.residual(2, NONE), 100);
        check.due("goal", Check.goal(x, "6aMbMcMdeMfMgh"), Check.DONE);
        tooGreat(x);
    }

    private void residualTermsOfGoneNodes() {
        check.by(Document.TERMS, "(that is not gone)");
        SuperDriver x = check.program("1/2/cased K=a M=1bMac");
        check.driven(x, "1aK", 13);
        check.due("a node that is gone", x.node(1, 0), 0);
        check.due("its residual term", x.residual(1, NONE), NONE);
        check.due("its residual term", x.residual(1, 0), NONE);
    }

    /** Node 3, a LET, has one of 115 signs; with a clause more it and all below node 0 goes. */
    private void longResidualTermsOfGoneNodes() {
        check.by(Document.TERMS, "(that is not gone)");
        SuperDriver x = check.program("0/3/cased", "1/3/plain MM0abc0abcM0abc0abc",
            "2/3/plain 12abc0abc0abc", "3/3/cased L=2abc", "7/3/plain");
        check.due("goal", Check.goal(x, "3a7bcd7efMgh"), Check.DONE);
        tooGreat(x);
        check.due("body", Check.body(x, 3, 4, "LLLLL3aLbc"), Check.DONE);
        check.due("drive()", Check.drive(x), 46);
        check.kinds(x, "7000000000000000000041532723644222222444476121");
        check.due("node 25, like node 3", x.residual(25, NONE), 91);
    }

    private void noTreeThen() {
        check.by(Document.DRIVE, "UnsupportedOperationException if it is TOO GREAT (there is no tree"
            + " then)");
        SuperDriver x = check.program("0/1/plain L0a", "1/1/plain LLa");
        check.dueTrue("input", Check.input(x, 0, "N"));
        check.driven(x, "1a", 4);
        check.runs(x, true, 9, 0, 0, "LLN");
        check.due("goal", Check.goal(x, "0a"), Check.DONE);
        for (int time = 0; time < 3; time++) {
            check.due("drive()", Check.drive(x), Check.UNSUPPORTED);
            for (int w = -1; w < 4; w++) {
                check.due("node(0, " + w + ")", x.node(0, w), NONE);
                check.due("term(0, " + w + ")", x.term(0, w), NONE);
                check.due("residual(0, " + w + ")", x.residual(0, w), NONE);
            }
            check.due("run(true, 5)", Check.run(x, true, 5), Check.STATE);
        }
        check.due("steps()", x.steps(), 0);
        check.due("result", Check.result(x), "LLN");
        check.runs(x, false, 5, 2, 5, "");
        check.driven(x, "1a", 4);
        check.runs(x, true, 9, 0, 0, "LLN");
    }
}
