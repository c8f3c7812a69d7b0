/** What the document says of generalising. */
final class GeneralCases {
    private static final int NONE = SuperDriver.NONE;

    private final Check check;

    GeneralCases(Check check) {
        this.check = check;
    }

    void all() {
        differentSigns();
        differentSignsWithSameParts();
        commonTerm();
        sameVariable();
        behindTheTwoTerms();
        samePairTwice();
        otherPairs();
        renamingOfTheRival();
        noRenamingOfTheRival();
        allNodesBelowAreGone();
        othersAreNotGone();
        belowALet();
        belowALetThatIsTheRival();
    }

    private void differentSigns() {
        check.by(Document.TERMS, "if their terms begin with different signs, G is B's first sign with"
            + " new variables as its parts, which STAND for B's parts, and B becomes 7 LET");
        SuperDriver x = check.program("0/1/plain 10aaLa", "1/3/cased");
        check.driven(x, "0a", 7);
        check.kinds(x, "3746121");
        check.nodes(x, 1, NONE, 0, 1, 1, 1, 1, 5);
        check.nodes(x, 2, NONE, 3, 8, 0, NONE, 1, NONE);
        check.terms(x, "f0 a", "f1 f0 a a L a", "f1 x8 x9 x10", "f0 a", "a", "L a", "a");
        check.residuals(x, "r0 a", "r2 r0 a a L a", "r2 x8 x9 x10", "r0 a", "a", "L a", "a");
        SuperDriver one = check.program("0/1/cased L=10a", "1/1/cased");
        check.driven(one, "0a", 4);
        check.kinds(one, "4746");
        check.terms(one, "f0 a", "f1 f0 x8", "f1 x9", "f0 x8");
        check.due("new variables", one.node(1, 2), 1);
    }

    /** Each part has a new variable of its own, also where two parts are the same. */
    private void differentSignsWithSameParts() {
        check.by(Document.TERMS, "G is B's first sign with new variables as its parts");
        SuperDriver x = check.program("0/1/plain 1aa0a", "1/3/plain K");
        check.driven(x, "0K", 7);
        check.kinds(x, "3731161");
        check.terms(x, "f0 K", "f1 K K f0 K", "f1 x8 x9 x10", "K", "K", "f0 K");
        check.due("new variables", x.node(1, 2), 3);
    }

    private void commonTerm() {
        check.by(Document.TERMS, "Otherwise G is the COMMON term of A's and B's: both rows are gone"
            + " through together from the left: where both have the same sign");
        SuperDriver x = check.program("0/3/plain 0aLbMcK");
        check.driven(x, "0NMKKLa", 15);
        check.kinds(x, "703227111622111");
        check.terms(x, "f0 N M K K L a", "f0 N L M K K M L a K", "f0 N x8 x9", "M K K", "L a",
            "f0 N L x8 M x9 K", "K", "K", "a", "f0 N x10 x11", "L x8", "M x9 K", "x8", "x9", "K");
        // The same sign inside the parts is G's, too.
        SuperDriver y = check.program("0/2/plain 0ML1KaLb", "1/1/cased");
        check.driven(y, "0ML1KaK", 13);
        check.kinds(y, "7031176222115");
        check.terms(y, "f0 M L f1 K a K", "f0 M L f1 K M L f1 K a L K", "f0 M L f1 K x8 x9", "a",
            "K", "f0 M L f1 K M L f1 K x8 L x9", "f0 M L f1 K x10 x11", "M L f1 K x8", "L x9");
    }

    private void sameVariable() {
        check.by(Document.TERMS, "(also the same variable) it is G's");
        SuperDriver x = check.program("0/2/plain 0aLb", "1/2/plain 1LbLb");
        check.driven(x, "0ab", 5);
        check.kinds(x, "37621");
        check.terms(x, "f0 a b", "f0 a L b", "f0 a x8", "L b", "b");
        check.due("new variables", x.node(1, 2), 1);
        // The same variable, but not at the same place.
        check.driven(x, "1ab", 7);
        check.kinds(x, "3762211");
        check.terms(x, "f1 a b", "f1 L b L b", "f1 x8 x9", "L b", "L b", "b", "b");
        // It stays in the residual term of the LET, whatever else it stands for in a body.
        check.driven(x, "0ba", 5);
        check.kinds(x, "37621");
        check.residuals(x, "r0 b a", "r0 b L a", "r0 b x8", "L a", "a");
    }

    private void behindTheTwoTerms() {
        check.by(Document.TERMS, "otherwise a new variable is, which stands for the two terms that"
            + " begin there, and both go on behind them");
        SuperDriver x = check.program("1/3/cased M=1bMacLd");
        check.driven(x, "1aKN", 14);
        check.kinds(x, "70411176122111");
        check.terms(x, "f1 a K N", "f1 x9 M x8 K L N", "f1 x10 x11 x12", "a", "K", "N",
            "f1 x14 M x13 x11 L x12", "f1 x15 x16 x17", "x14", "M x13 x11", "L x12", "x13", "x11",
            "x12");
        SuperDriver y = check.program("0/3/plain 0MabLbc");
        check.driven(y, "0aMbbN", 14);
        check.kinds(y, "70312711622111");
        check.terms(y, "f0 a M b b N", "f0 M a M b b L M b b N", "f0 x8 x9 N", "a", "M b b",
            "f0 M x8 x9 L x9 N", "b", "b", "f0 x10 x11 N", "M x8 x9", "L x9", "x8", "x9", "x9");
    }

    private void samePairTwice() {
        check.by(Document.TERMS, "the same new one if the same two terms (sign by sign) were met"
            + " before");
        SuperDriver x = check.program("0/2/plain 0LaLb", "1/3/plain 1MaaMaaMcc");
        check.driven(x, "0aa", 5);
        check.kinds(x, "37621");
        check.due("new variables", x.node(1, 2), 1);
        check.terms(x, "f0 a a", "f0 L a L a", "f0 x8 x8", "L a", "a");
        check.residuals(x, "r0 a", "r0 L a", "r0 x8", "L a", "a");
        check.driven(x, "1aab", 9);
        check.terms(x, "f1 a a b", "f1 M a a M a a M b b", "f1 x8 x8 x9", "M a a", "M b b");
        check.due("new variables", x.node(1, 2), 2);
        // Another pair stands between them.
        SuperDriver y = check.program("0/3/plain 0LaLbLc");
        check.driven(y, "0aba", 7);
        check.kinds(y, "3762211");
        check.terms(y, "f0 a b a", "f0 L a L b L a", "f0 x8 x9 x8", "L a", "L b", "a", "b");
        check.due("new variables", y.node(1, 2), 2);
        check.residuals(y, "r0 a b", "r0 L a L b", "r0 x8 x9", "L a", "L b", "a", "b");
        // It is not the first pair that comes again.
        check.driven(y, "0abb", 7);
        check.kinds(y, "3762211");
        check.terms(y, "f0 a b b", "f0 L a L b L b", "f0 x8 x9 x9", "L a", "L b", "a", "b");
        check.due("new variables", y.node(1, 2), 2);
        check.residuals(y, "r0 a b", "r0 L a L b", "r0 x8 x9", "L a", "L b", "a", "b");
    }

    private void otherPairs() {
        check.by(Document.TERMS, "if the same two terms (sign by sign) were met before");
        // Both terms are others.
        SuperDriver x = check.program("0/2/plain 0LaLb", "1/2/plain 1LaLLb", "2/2/plain 2LbLb");
        check.driven(x, "0ab", 7);
        check.kinds(x, "3762211");
        check.due("new variables", x.node(1, 2), 2);
        check.terms(x, "f0 a b", "f0 L a L b", "f0 x8 x9", "L a", "L b", "a", "b");
        // The upper terms are the same, the lower ones are not.
        check.driven(x, "1aa", 12);
        check.kinds(x, "703117622121");
        check.terms(x, "f1 a a", "f1 L a L L a", "f1 x8 x9", "a", "a", "f1 L x8 L L x9",
            "f1 x10 x11", "L x8", "L L x9", "x8", "L x9", "x9");
        // The lower terms are the same, the upper ones are not.
        check.driven(x, "2ab", 7);
        check.terms(x, "f2 a b", "f2 L b L b", "f2 x8 x9", "L b", "L b", "b", "b");
        check.due("new variables", x.node(1, 2), 2);
    }

    private void renamingOfTheRival() {
        check.by(Document.TERMS, "If G is a renaming of A's term, B becomes 7 LET");
        SuperDriver x = check.program("2/1/plain 2La");
        check.driven(x, "2a", 5);
        check.kinds(x, "37621");
        check.nodes(x, 1, NONE, 0, 1, 1, 3);
        check.nodes(x, 2, NONE, 1, 0, 1, NONE);
        check.nodes(x, 3, 1, 0, 0, 0, 0);
        check.terms(x, "f2 a", "f2 L a", "f2 x8", "L a", "a");
        check.residuals(x, "r0 a", "r0 L a", "r0 x8", "L a", "a");
    }

    private void noRenamingOfTheRival() {
        check.by(Document.TERMS, "if it is none, all nodes below A are GONE (0), also B, and A becomes"
            + " 7 LET");
        SuperDriver x = check.program("1/2/cased K=a M=1bMac", "2/1/plain 2La");
        check.driven(x, "1aK", 13);
        check.nodes(x, 0, 7, 0, 0, 4, 1, 1, 1, 7, 6, 1, 2, 1, 1);
        check.nodes(x, 1, NONE, 0, 0, 0, 0, 0, 3, 3, 7, 7, 7, 10, 10);
        check.nodes(x, 2, 2, NONE, NONE, 10, NONE, NONE, NONE, 2, 3, NONE, 2, NONE, NONE);
        check.nodes(x, 3, 0, 0, 0, 1, 0, 0, 0, 0, 0, 0, 0, 0, 0);
        check.residuals(x, "r3 a K", "", "", "r3 x10 x11", "a", "K", "x11", "r3 x13 M x12 x11",
            "r3 x14 x15", "x13", "M x12 x11", "x12", "x11");
        // A constructor without parts is no renaming of a variable.
        check.driven(x, "2K", 8);
        check.kinds(x, "70317621");
        check.terms(x, "f2 K", "f2 L K", "f2 x8", "K", "f2 L x8", "f2 x9", "L x8", "x8");
    }

    /** Also those that are open, and those that are not between A and B. */
    private void allNodesBelowAreGone() {
        check.by(Document.TERMS, "all nodes below A are GONE (0), also B");
        SuperDriver x = check.program("0/2/cased K=LLLLN M=PLLa0aMbc");
        check.driven(x, "0aK", 26);
        check.kinds(x, "70000000411222272261221111");
        check.terms(x, "f0 a K", "L L L L N", "P L L x8 f0 x8 M x9 K", "L L L N", "L L x8",
            "f0 x8 M x9 K", "L L N", "L x8", "f0 x10 x11", "a", "K");
    }

    private void othersAreNotGone() {
        check.by(Document.TERMS, "all nodes below A are GONE (0)");
        SuperDriver x = check.program("1/2/cased K=a M=1bMac");
        check.driven(x, "P1aKLLLb", 18);
        check.kinds(x, "272002411217161211");
        check.nodes(x, 1, NONE, 0, 0, 1, 1, 2, 1, 1, 1, 5, 6, 6, 9, 11, 11, 11, 15, 15);
        // Two that are side by side are made more general each by itself.
        check.driven(x, "M1aK1bK", 27);
        check.kinds(x, "277000041141117176126121111");
    }

    private void belowALet() {
        check.by(Document.TERMS, "Below a LET come new nodes: one with G, then for each of its new"
            + " variables, in order, one with what it stands for");
        SuperDriver x = check.program("0/3/plain 0LcMabOb");
        check.driven(x, "0abc", 10);
        check.kinds(x, "3762221111");
        check.nodes(x, 1, NONE, 0, 1, 1, 1, 1, 3, 4, 4, 5);
        check.terms(x, "f0 a b c", "f0 L c M a b O b", "f0 x8 x9 x10", "L c", "M a b", "O b");
    }

    private void belowALetThatIsTheRival() {
        check.by(Document.TERMS, "in the term of the node that became LET");
        SuperDriver x = check.program("0/2/plain 0MaaLb");
        check.driven(x, "0NLK", 12);
        check.kinds(x, "703117622111");
        check.nodes(x, 1, NONE, 0, 0, 0, 0, 2, 5, 5, 5, 7, 7, 8);
        check.terms(x, "f0 N L K", "f0 M N N L L K", "f0 x8 L x9", "N", "K", "f0 M x8 x8 L L x9",
            "f0 x10 L x11", "M x8 x8", "L x9", "x8", "x8", "x9");
        check.residuals(x, "r2 N K", "", "r2 x8 x9", "N", "K", "r2 M x8 x8 L x9", "r2 x10 x11");
    }
}
