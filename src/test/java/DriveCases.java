/** What the document says of a drive: what a node is, and what its rivals are. */
final class DriveCases {
    private static final int NONE = SuperDriver.NONE;

    private final Check check;

    DriveCases(Check check) {
        this.check = check;
    }

    void all() {
        asFarAsVariablesAllow();
        inTheOrderOfMaking();
        nodeZero();
        lowestFirst();
        leaf();
        build();
        stuck();
        casedOnVariable();
        rivalsOfASteppingNode();
        rivalsOfASplittingNode();
        stepsHaveNoSplitsAsRivals();
        splitsHaveNoStepsAsRivals();
        nearestFirst();
        fold();
        foldBeforeGeneralising();
        sameSignsButForVariables();
        oneForOne();
        generalisedByTheFirst();
        step();
        split();
        splitInside();
        splitWithoutClauses();
        newVariables();
        newVariablesOfGoneNodes();
        bothVariables();
        sameBeginning();
        samePlace();
        embeddedInAPart();
    }

    private void asFarAsVariablesAllow() {
        check.by(Document.WHAT, "a term is driven as far as its variables allow, into a tree whose"
            + " nodes are folded back to like ones above them and made more general where they grow");
        SuperDriver x = check.program("0/2/cased K=a M=Ma0bc");
        check.driven(x, "00abc", 10);
        check.nodes(x, 0, 4, 4, 3, 1, 2, 2, 1, 6, 1, 6);
        check.nodes(x, 1, NONE, 0, 0, 1, 1, 2, 4, 4, 5, 5);
        check.nodes(x, 2, 0, 1, NONE, NONE, 2, 2, NONE, 1, NONE, 0);
        check.nodes(x, 3, 1, 1, 0, 0, 0, 0, 0, 0, 0, 0);
        check.terms(x, "f0 f0 a b c", "f0 b c", "f0 M x8 f0 x9 b c", "c", "M x10 f0 x11 c",
            "M x8 f0 f0 x9 b c", "x10", "f0 x11 c", "x8", "f0 f0 x9 b c");
        check.residuals(x, "r0 a b c", "r1 b c", "M x8 r0 x9 b c", "c", "M x10 r1 x11 c",
            "M x8 r0 x9 b c", "x10", "r1 x11 c", "x8", "r0 x9 b c");
    }

    private void inTheOrderOfMaking() {
        check.by(Document.TERMS, "TO DRIVE makes a tree of NODES 0, 1, .. in the order of making");
        SuperDriver x = check.program("0/1/plain LLa");
        check.driven(x, "M0aLb", 7);
        check.terms(x, "M f0 a L b", "f0 a", "L b", "L L a", "b", "L a", "a");
        check.nodes(x, 1, NONE, 0, 0, 1, 2, 3, 5);
    }

    private void nodeZero() {
        check.by(Document.TERMS, "Node 0 has the GOAL");
        SuperDriver x = check.program("0/1/plain LLa");
        for (String goal : new String[] {"K", "a", "Lb"}) {
            check.due("goal", Check.goal(x, goal), Check.DONE);
            check.due("drive()", Check.drive(x), goal.length());
            check.due("term 0", Check.term(x, 0).replace(" ", ""), goal);
            check.due("above it", x.node(0, 1), NONE);
        }
    }

    private void lowestFirst() {
        check.by(Document.TERMS, "All are OPEN at first; as long as there is an open one the lowest is done");
        SuperDriver x = new SuperDriver();
        check.driven(x, "MMaLbPOcN", 9);
        check.terms(x, "M M a L b P O c N", "M a L b", "P O c N", "a", "L b", "O c", "N", "b", "c");
        // What is made by one that was done before it is open is done in its turn.
        SuperDriver y = check.program("0/1/cased L=a", "1/1/plain LK");
        check.driven(y, "M0a1b", 6);
        check.kinds(y, "243121");
        check.terms(y, "M f0 a f1 b", "f0 a", "f1 b", "x8", "L K", "K");
    }

    private void leaf() {
        check.by(Document.TERMS, "1 LEAF: a variable or a constructor without parts");
        SuperDriver x = new SuperDriver();
        for (String goal : new String[] {"a", "b", "c", "d", "e", "f", "g", "h", "K", "N"}) {
            check.driven(x, goal, 1);
            check.kinds(x, "1");
        }
    }

    private void build() {
        check.by(Document.TERMS, "2 BUILD: begins with a constructor; new nodes below it for its"
            + " parts, in their order");
        SuperDriver x = check.program("0/1/plain a");
        String[] goals = {"La", "Oa", "MaN", "PaN", "M0bPKa"};
        String[] kinds = {"21", "21", "211", "211", "232111"};
        for (int k = 0; k < goals.length; k++) {
            check.driven(x, goals[k], kinds[k].length());
            check.kinds(x, kinds[k]);
        }
        check.terms(x, "M f0 b P K a", "f0 b", "P K a", "b", "K", "a");
        check.nodes(x, 1, NONE, 0, 0, 1, 2, 2);
    }

    private void stuck() {
        check.by(Document.TERMS, "Otherwise it has a next call. 5 STUCK: it cannot be unfolded");
        SuperDriver x = check.program("0/1/cased N=K", "1/1/plain", "2/1/plain a", "3/1/cased");
        for (String goal : new String[] {"1K", "1a", "1La", "0K", "0La", "3K", "3N", "01a", "01K",
            "03K", "303K", "12a", "10N"}) {
            check.driven(x, goal, 1);
            check.kinds(x, "5");
            check.due("what is of it", x.node(0, 2), NONE);
        }
        // A call inside that is not next does not count.
        check.driven(x, "21a", 2);
        check.kinds(x, "35");
        check.driven(x, "02K", 2);
        check.kinds(x, "35");
    }

    private void casedOnVariable() {
        check.by(Document.TERMS, "unless it is a cased one's whose first part is a variable");
        SuperDriver x = check.program("0/1/cased N=K", "1/2/plain", "3/2/cased");
        check.driven(x, "0a", 2);
        check.kinds(x, "41");
        check.driven(x, "3hK", 1);
        check.kinds(x, "4");
        check.driven(x, "03aK", 1);
        check.kinds(x, "4");
        check.driven(x, "1aa", 1);
        check.kinds(x, "5");
        check.driven(x, "3Ka", 1);
        check.kinds(x, "5");
        check.driven(x, "3Laa", 1);
        check.kinds(x, "5");
    }

    // ---- rivals ----

    private void rivalsOfASteppingNode() {
        check.by(Document.TERMS, "if the next call can be unfolded, they are those nodes 3 that are"
            + " reached going up from it through nodes 3 and 7 alone");
        SuperDriver near = check.program("0/1/plain 1a", "1/1/plain 0a");
        check.driven(near, "0K", 3);
        check.kinds(near, "336");
        check.due("target", near.node(2, 2), 0);
        SuperDriver throughLet = check.program("2/1/plain 2La");
        check.driven(throughLet, "2a", 5);
        check.kinds(throughLet, "37621");
        check.due("target", throughLet.node(2, 2), 0);
        SuperDriver notThroughBuild = check.program("0/1/cased N=L0LN L=K");
        check.driven(notThroughBuild, "0N", 4);
        check.kinds(notThroughBuild, "3231");
        check.terms(notThroughBuild, "f0 N", "L f0 L N", "f0 L N", "K");
        SuperDriver notThroughSplit = check.program("0/1/plain 1a", "1/1/cased L=0a");
        check.driven(notThroughSplit, "0a", 4);
        check.kinds(notThroughSplit, "3436");
        check.terms(notThroughSplit, "f0 a", "f1 a", "f0 x8", "f1 x8");
        check.due("target", notThroughSplit.node(3, 2), 1);
    }

    private void rivalsOfASplittingNode() {
        check.by(Document.TERMS, "if not, all nodes 4 above it");
        SuperDriver throughBuild = check.program("0/1/cased L=L0a");
        check.driven(throughBuild, "0a", 3);
        check.kinds(throughBuild, "426");
        SuperDriver throughStep = check.program("0/1/cased L=1a", "1/1/plain L0a");
        check.driven(throughStep, "0a", 4);
        check.kinds(throughStep, "4326");
        SuperDriver throughSplit = check.program("0/1/cased L=1a", "1/1/cased M=0b");
        check.driven(throughSplit, "0a", 3);
        check.kinds(throughSplit, "446");
        check.due("target", throughSplit.node(2, 2), 0);
        SuperDriver throughLet = check.program("0/2/cased L=0aLb");
        check.driven(throughLet, "0ab", 6);
        check.kinds(throughLet, "476121");
        check.due("target", throughLet.node(2, 2), 0);
        // One that is not above it is none.
        SuperDriver beside = check.program("0/1/cased");
        check.driven(beside, "M0a0b", 3);
        check.kinds(beside, "244");
    }

    private void stepsHaveNoSplitsAsRivals() {
        check.by(Document.TERMS, "they are those nodes 3");
        SuperDriver x = check.program("1/1/cased L=1La");
        check.driven(x, "1a", 3);
        check.kinds(x, "436");
        check.terms(x, "f1 a", "f1 L x8", "f1 L x8");
        check.due("target", x.node(2, 2), 1);
    }

    private void splitsHaveNoStepsAsRivals() {
        check.by(Document.TERMS, "all nodes 4 above it");
        SuperDriver x = check.program("0/1/plain 1a0a", "1/2/cased");
        check.driven(x, "0a", 2);
        check.kinds(x, "34");
        check.terms(x, "f0 a", "f1 a f0 a");
    }

    private void nearestFirst() {
        check.by(Document.TERMS, "in both the nearest first");
        SuperDriver steps = check.program("2/1/plain 0aK", "0/2/plain 02ab");
        check.driven(steps, "2a", 5);
        check.kinds(steps, "33766");
        check.terms(steps, "f2 a", "f0 a K", "f0 f2 a K", "f0 x8 K", "f2 a");
        check.nodes(steps, 2, NONE, NONE, 1, 1, 0);
        SuperDriver splits = check.program("2/1/cased L=0aK", "0/2/cased L=02ab");
        check.driven(splits, "2a", 5);
        check.kinds(splits, "44766");
        check.terms(splits, "f2 a", "f0 x8 K", "f0 f2 x9 K", "f0 x10 K", "f2 x9");
        check.nodes(splits, 2, 0, 8, 1, 1, 0);
    }

    // ---- folding ----

    private void fold() {
        check.by(Document.TERMS, "6 FOLD: the first rival whose term it is a RENAMING of");
        SuperDriver x = check.program("0/3/cased L=0cab", "1/2/plain 1ba");
        check.driven(x, "0cab", 2);
        check.kinds(x, "46");
        check.nodes(x, 2, 2, 0);
        check.terms(x, "f0 c a b", "f0 b x8 a");
        check.driven(x, "1ab", 2);
        check.kinds(x, "36");
        check.driven(x, "1cMac", 3);
        check.kinds(x, "336");
        check.nodes(x, 2, NONE, NONE, 0);
        check.terms(x, "f1 c M a c", "f1 M a c c", "f1 c M a c");
        SuperDriver same = check.program("0/1/plain 0a");
        check.driven(same, "0K", 2);
        check.kinds(same, "36");
    }

    private void foldBeforeGeneralising() {
        check.by(Document.TERMS, "if there is any, is its TARGET. Otherwise");
        // Node 1 is nearer and embedded, but node 2 is a renaming of node 0.
        SuperDriver x = check.program("0/1/plain a", "1/1/plain 01a");
        check.driven(x, "01a", 3);
        check.kinds(x, "336");
        check.terms(x, "f0 f1 a", "f1 a", "f0 f1 a");
        check.due("target", x.node(2, 2), 0);
    }

    private void sameSignsButForVariables() {
        check.by(Document.TERMS, "(the same signs but for variables");
        SuperDriver x = check.program("0/2/plain 0Kb");
        check.driven(x, "0ab", 3);
        check.kinds(x, "336");
        check.terms(x, "f0 a b", "f0 K b", "f0 K b");
        check.due("target", x.node(2, 2), 1);
        SuperDriver y = check.program("0/2/plain 0Nb");
        check.driven(y, "0Kb", 3);
        check.kinds(y, "336");
        SuperDriver z = check.program("0/1/plain 1a", "1/1/plain 0a");
        check.driven(z, "0a", 3);
        check.kinds(z, "336");
        check.due("target", z.node(2, 2), 0);
    }

    private void oneForOne() {
        check.by(Document.TERMS, "and these changed one for one)");
        SuperDriver x = check.program("0/2/plain 0aa", "1/2/cased M=1ab");
        // Two become one.
        check.driven(x, "0ab", 4);
        check.kinds(x, "3761");
        check.terms(x, "f0 a b", "f0 a a", "f0 a x8", "a");
        // One becomes two.
        check.driven(x, "1aa", 6);
        check.kinds(x, "704116");
        check.terms(x, "f1 a a", "f1 x8 x9", "f1 x10 x11", "a", "a", "f1 x12 x13");
    }

    private void generalisedByTheFirst() {
        check.by(Document.TERMS, "Otherwise, if there is a rival whose term is EMBEDDED in its own,"
            + " it is GENERALISED by the first such");
        // Node 1 is nearer but not embedded in node 2, node 0 is.
        SuperDriver x = check.program("0/2/plain 1aK", "1/2/plain 0LaN");
        check.driven(x, "0aN", 6);
        check.kinds(x, "337621");
        check.terms(x, "f0 a N", "f1 a K", "f0 L a N", "f0 x8 N", "L a", "a");
        check.nodes(x, 2, NONE, NONE, 1, 0, 1, NONE);
        // None is embedded: what gets smaller is driven on.
        SuperDriver y = check.program("0/1/cased L=0a N=K");
        check.driven(y, "0LLLN", 5);
        check.kinds(y, "33331");
    }

    // ---- steps and splits ----

    private void step() {
        check.by(Document.TERMS, "Otherwise it is 3 STEP, if the next call can be unfolded: one new"
            + " node with the term in which it is");
        SuperDriver x = check.program("0/2/cased", "1/1/plain La");
        check.driven(x, "01ab", 2);
        check.kinds(x, "35");
        check.terms(x, "f0 f1 a b", "f0 L a b");
        check.due("above it", x.node(1, 1), 0);
        check.driven(x, "1c", 3);
        check.terms(x, "f1 c", "L c", "c");
    }

    private void split() {
        check.by(Document.TERMS, "or 4 SPLIT, by the variable v that its first part is: for each"
            + " constructor, K first, for which the next call's function has a clause, a new node");
        SuperDriver x = new SuperDriver();
        check.due("function", Check.function(x, 5, 2, true), Check.DONE);
        String[] bodies = {"a", "Mab", "PcMba", "a", "b", "Pbc"};
        for (int c = 5; c >= 0; c--) {
            check.due("body", Check.body(x, 5, c, bodies[c]), Check.DONE);
        }
        check.driven(x, "5hMhg", 33);
        check.nodes(x, 0, 4, 2, 2, 2, 2, 2, 2, 1, 1, 1, 2, 2, 2, 1, 1, 2, 1, 1, 2, 2, 1, 2, 1, 1,
            1, 1, 2, 1, 1, 1, 1, 1, 1);
        check.terms(x, "f5 h M h g", "M K g", "M x8 M L x8 g", "P M M x9 x10 g M x10 x9", "M N g",
            "M O x11 g", "P x13 M P x12 x13 g");
        check.due("v", x.node(0, 2), 7);
        SuperDriver y = check.program("0/1/cased P=K N=N");
        check.driven(y, "0c", 3);
        check.terms(y, "f0 c", "N", "K");
    }

    private void splitInside() {
        check.by(Document.TERMS, "everywhere in the term v becomes the constructor with NEW variables"
            + " as its parts, then the next call is unfolded");
        SuperDriver x = check.program("0/3/cased", "1/2/cased L=Mab M=b K=a");
        check.driven(x, "01babMba", 4);
        check.kinds(x, "4454");
        check.terms(x, "f0 f1 b a b M b a", "f0 a K M K a", "f0 M x8 a L x8 M L x8 a",
            "f0 x10 M x9 x10 M M x9 x10 a");
        check.due("v", x.node(0, 2), 1);
    }

    private void splitWithoutClauses() {
        check.by(Document.TERMS, "for which the next call's function has a clause");
        SuperDriver x = check.program("0/1/cased", "1/1/cased K=K");
        check.driven(x, "0a", 1);
        check.kinds(x, "4");
        check.nodes(x, 2, 0);
        // The next call's function, not the one that waits for it.
        check.driven(x, "10a", 1);
        check.kinds(x, "4");
        check.driven(x, "01a", 2);
        check.kinds(x, "45");
    }

    // ---- new variables ----

    private void newVariables() {
        check.by(Document.TERMS, "NEW variables are 8, 9, .., each used once in the whole drive, in"
            + " the order in which they come");
        SuperDriver x = check.program("0/1/cased L=1a M=1b P=1b", "1/1/cased L=a P=b");
        check.driven(x, "0a", 10);
        check.terms(x, "f0 a", "f1 x8", "f1 x10", "f1 x12", "x13", "x15", "x16", "x18", "x19",
            "x21");
        // Each drive begins anew.
        check.due("drive()", Check.drive(x), 10);
        check.due("the last one", x.term(9, 0), 21);
        check.driven(x, "1h", 3);
        check.terms(x, "f1 h", "x8", "x10");
    }

    private void newVariablesOfGoneNodes() {
        check.by(Document.TERMS, "each used once in the whole drive");
        SuperDriver x = check.program("1/2/cased K=a M=1bMac");
        for (int time = 0; time < 3; time++) {
            check.driven(x, "1aK", 13);
            check.kinds(x, "7004111761211");
            check.terms(x, "f1 a K", "K", "f1 x9 M x8 K", "f1 x10 x11", "a", "K", "x11",
                "f1 x13 M x12 x11", "f1 x14 x15", "x13", "M x12 x11", "x12", "x11");
        }
    }

    // ---- embedding ----

    private void bothVariables() {
        check.by(Document.TERMS, "A term s is EMBEDDED in t if both are variables");
        SuperDriver x = check.program("0/2/plain 0bb");
        check.driven(x, "0ab", 4);
        check.kinds(x, "3761");
        check.terms(x, "f0 a b", "f0 b b", "f0 x8 b", "b");
        // A variable is not embedded in a constructor, nor a constructor in a variable.
        check.driven(x, "0Kb", 3);
        check.kinds(x, "336");
        check.terms(x, "f0 K b", "f0 b b", "f0 b b");
        SuperDriver y = check.program("0/2/plain 0bK");
        check.driven(y, "0ab", 4);
        check.kinds(y, "3336");
        check.terms(y, "f0 a b", "f0 b K", "f0 K K", "f0 K K");
    }

    private void sameBeginning() {
        check.by(Document.TERMS, "or they begin with the same constructor or function");
        SuperDriver x = check.program("0/2/plain 0LNb", "1/2/plain 1LLab", "2/1/plain 3a",
            "3/1/plain 2a");
        check.driven(x, "0KN", 3);
        check.kinds(x, "336");
        check.terms(x, "f0 K N", "f0 L N N", "f0 L N N");
        check.driven(x, "0OKN", 3);
        check.kinds(x, "336");
        check.driven(x, "1LNK", 9);
        check.kinds(x, "703176221");
        check.terms(x, "f1 L N K", "f1 L L L N K", "f1 L x8 K", "N", "f1 L L L x8 K");
        check.driven(x, "2La", 3);
        check.kinds(x, "336");
    }

    private void samePlace() {
        check.by(Document.TERMS, "and each part of s is embedded in the part of t at its place");
        SuperDriver x = check.program("0/2/plain 0ba", "1/2/plain 1LaK");
        check.driven(x, "0LaK", 3);
        check.kinds(x, "336");
        check.terms(x, "f0 L a K", "f0 K L a", "f0 L a K");
        // Both parts of the one are embedded in a part of the other, but not each in its own.
        check.driven(x, "0Laa", 3);
        check.kinds(x, "336");
        check.driven(x, "0aLa", 3);
        check.kinds(x, "336");
        // The second part of node 0 is not embedded in that of node 1.
        check.driven(x, "1aN", 6);
        check.kinds(x, "337621");
        check.terms(x, "f1 a N", "f1 L a K", "f1 L L a K", "f1 L x8 K", "L a", "a");
        check.due("target", x.node(3, 2), 1);
    }

    private void embeddedInAPart() {
        check.by(Document.TERMS, "or s is embedded in a part of t");
        for (String body : new String[] {"10aKN", "1K0aN", "1KN0a", "1K1NN0aa"}) {
            SuperDriver x = check.program("0/1/plain " + body, "1/3/plain K");
            check.due("goal", Check.goal(x, "0b"), Check.DONE);
            check.dueTrue("drive()", Check.drive(x) > 0);
            check.due("the goal's node", x.node(0, 0), 3);
            check.due("the grown node", x.node(1, 0), 7);
            check.due("its new variables", x.node(1, 2), 3);
        }
        SuperDriver deep = check.program("0/1/cased L=1aKL0a", "1/3/cased");
        check.driven(deep, "0a", 7);
        check.kinds(deep, "4741126");
        check.terms(deep, "f0 a", "f1 x8 K L f0 x8", "f1 x9 x10 x11", "x8", "K", "L f0 x8", "f0 x8");
        // Both begin with the same sign, but only a part has all of it.
        SuperDriver y = check.program("0/2/plain 00abK");
        check.driven(y, "0aN", 9);
        check.kinds(y, "703117661");
        check.terms(y, "f0 a N", "f0 f0 a N K", "f0 x8 x9", "a", "N", "f0 f0 x8 x9 K", "f0 x10 x11",
            "f0 x8 x9", "K");
    }
}
