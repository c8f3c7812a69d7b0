/** What the document says of terms, of unfolding and of the next call. */
final class TermCases {
    private static final int NONE = SuperDriver.NONE;
    private static final String CONSTRUCTORS = "KLMNOP";
    private static final int[] ARITY = {0, 1, 2, 0, 1, 2};
    private static final String[] VALUES = {"K", "LN", "MNLN", "N", "OK", "PKOK"};

    private final Check check;

    TermCases(Check check) {
        this.check = check;
    }

    void all() {
        variables();
        partsOfConstructors();
        partsOfFunctions();
        numbers();
        numberOfTheLastResidualFunction();
        stuckHasNoParts();
        values();
        bodyOfPlain();
        clausesOfCased();
        oneClauseForAConstructor();
        unfoldPlain();
        unfoldCased();
        residualFunctionsUnfoldLikewise();
        stuckCannotBeUnfolded();
        firstFromTheLeft();
        plainDoesNotWait();
        casedWaits();
    }

    private void variables() {
        check.by(Document.TERMS, "a VARIABLE a .. h");
        SuperDriver x = new SuperDriver();
        for (int v = 0; v < 8; v++) {
            check.driven(x, String.valueOf((char) ('a' + v)), 1);
            check.due("its number", x.term(0, 0), v);
        }
    }

    private void partsOfConstructors() {
        check.by(Document.TERMS, "none for K and N, one for L and O, two for M and P");
        for (int c = 0; c < 6; c++) {
            for (int parts = 0; parts <= 3; parts++) {
                SuperDriver x = new SuperDriver();
                String text = CONSTRUCTORS.charAt(c) + "aKb".substring(0, parts);
                boolean is = parts == ARITY[c];
                check.due("goal " + text, Check.goal(x, text), is ? Check.DONE : Check.ARGUMENT);
                String value = CONSTRUCTORS.charAt(c) + "NKN".substring(0, parts);
                x.wipe();
                check.due("input " + value, Check.input(x, 0, value) ? 1 : 0, is ? 1 : 0);
            }
        }
    }

    private void partsOfFunctions() {
        check.by(Document.TERMS, "a FUNCTION 0 .. 7 that was declared, and behind it as many parts"
            + " as it was declared with");
        for (int f = 0; f < 8; f++) {
            SuperDriver x = new SuperDriver();
            check.due("not declared", Check.goal(x, f + "K"), Check.ARGUMENT);
            x.wipe();
            int declared = 1 + f % 3;
            check.due("function", Check.function(x, f, declared, false), Check.DONE);
            for (int parts = 0; parts <= 4; parts++) {
                long want = parts == declared ? Check.DONE : Check.ARGUMENT;
                String text = f + "aKbN".substring(0, parts);
                check.due("goal " + text, Check.goal(x, text), want);
                x.wipe();
                check.due("goal L" + text, Check.goal(x, "L" + text), want);
                x.wipe();
            }
            x.forget();
            check.due("no more declared", Check.goal(x, f + "aKbN".substring(0, declared)),
                Check.ARGUMENT);
        }
    }

    private void numbers() {
        check.by(Document.TERMS, "variables are 0 .. 7 (and new ones more), constructors 100 .. 105,"
            + " functions 200 .. 207, the RESIDUAL function of node n is 300 + n");
        SuperDriver x = check.program("0/1/cased L=a", "7/1/cased");
        check.driven(x, "MKLMNOPa0h", 10);
        int[] signs = {102, 100, 101, 102, 103, 104, 105, 0, 200, 7};
        for (int i = 0; i < signs.length; i++) {
            check.due("term(0, " + i + ")", x.term(0, i), signs[i]);
        }
        check.due("a new variable", x.term(9, 0), 8);
        int split = 8;
        check.due("a SPLIT", x.node(split, 0), 4);
        check.due("its residual function", x.residual(split, 0), 300 + split);
        check.driven(x, "7a", 1);
        check.due("the last function", x.term(0, 0), 207);
        check.due("node 0's residual function", x.residual(0, 0), 300);
    }

    private void numberOfTheLastResidualFunction() {
        check.by(Document.TERMS, "the RESIDUAL function of node n is 300 + n");
        SuperDriver x = check.program("0/1/cased");
        check.chain(x, 47, 0, 1);
        check.due("drive()", Check.drive(x), 48);
        check.due("a SPLIT", x.node(47, 0), 4);
        check.due("its residual function", x.residual(47, 0), 347);
        check.due("node 0's residual term ends with it", x.residual(0, x.residual(0, NONE) - 2), 347);
    }

    private void stuckHasNoParts() {
        check.by(Document.TERMS, "STUCK, a sign without parts, 400");
        SuperDriver x = check.program("0/2/plain", "1/1/cased M=b");
        check.driven(x, "M0abLN", 4);
        check.kinds(x, "2521");
        check.due("STUCK", x.residual(1, 0), 400);
        check.due("its row", x.residual(1, NONE), 1);
        check.residuals(x, "M STUCK L N", "STUCK", "L N", "N");
    }

    private void values() {
        check.by(Document.TERMS, "A VALUE is a term of constructors alone");
        SuperDriver x = check.program("0/1/plain K");
        for (String value : new String[] {"K", "N", "LK", "ON", "MKN", "PLKON", "MMMKKKK"}) {
            check.dueTrue("a value " + value, Check.input(x, 0, value));
        }
        for (String none : new String[] {"a", "La", "MKh", "0K", "L0K", "M0KK", "KK", "M", ""}) {
            check.dueFalse("no value " + none, Check.input(x, 0, none));
            x.wipe();
        }
    }

    // ---- unfolding ----

    private void bodyOfPlain() {
        check.by(Document.TERMS, "A PLAIN function has a BODY, a term in which a, b, .. stand for"
            + " its parts");
        SuperDriver x = check.program("0/3/plain McMbMab", "1/1/plain MaMaa", "2/2/plain b");
        check.driven(x, "0LdeMfN", 11);
        check.due("what is below", Check.term(x, 1), "M M f N M e M L d e");
        check.due("goal", Check.goal(x, "0LKNMNK"), Check.DONE);
        check.runs(x, false, 1, 0, 1, "MMNKMNMLKN");
        check.due("goal", Check.goal(x, "1MKN"), Check.DONE);
        check.runs(x, false, 1, 0, 1, "MMKNMMKNMKN");
        check.due("goal", Check.goal(x, "2MKNLK"), Check.DONE);
        check.runs(x, false, 1, 0, 1, "LK");
    }

    private void clausesOfCased() {
        check.by(Document.TERMS, "each with a body in which a, b, .. stand for that constructor's"
            + " parts and, behind them, for the function's other parts");
        SuperDriver x = check.program(
            "0/3/cased K=Mba L=McMba M=MdMcMba N=Mab O=MaMbc P=MaMbMcd", "1/1/cased M=Mba N=K");
        String[] results = {"MLKK", "MLKMKN", "MLKMKMLNN", "MKLK", "MKMKLK", "MKMOKMKLK"};
        for (int c = 0; c < 6; c++) {
            check.due("goal", Check.goal(x, "0" + VALUES[c] + "KLK"), Check.DONE);
            check.runs(x, false, 1, 0, 1, results[c]);
        }
        check.due("goal", Check.goal(x, "1MLKN"), Check.DONE);
        check.runs(x, false, 1, 0, 1, "MNLK");
        check.driven(x, "0PbMcdLea", 11);
        check.due("what is below", Check.term(x, 1), "M b M M c d M L e a");
    }

    private void oneClauseForAConstructor() {
        check.by(Document.TERMS, "A CASED one has CLAUSES, one for a constructor at most");
        SuperDriver x = check.program("0/1/cased L=K L=La L=LLa");
        check.driven(x, "0a", 4);
        check.kinds(x, "4221");
        check.terms(x, "f0 a", "L L x8", "L x8", "x8");
    }

    private void unfoldPlain() {
        check.by(Document.TERMS, "of a plain one if it has a body");
        SuperDriver x = check.program("0/1/plain", "1/1/plain K");
        check.driven(x, "0K", 1);
        check.kinds(x, "5");
        check.runs(x, false, 5, 1, 0, "");
        check.driven(x, "1K", 2);
        check.kinds(x, "31");
        check.runs(x, false, 5, 0, 1, "K");
        check.due("body", Check.body(x, 0, NONE, "La"), Check.DONE);
        check.driven(x, "0b", 3);
        check.kinds(x, "321");
        check.driven(x, "01b", 4);
        check.terms(x, "f0 f1 b", "L f1 b", "f1 b", "K");
    }

    private void unfoldCased() {
        check.by(Document.TERMS, "of a cased one if its first part begins with a constructor for"
            + " which it has a clause");
        for (int c = 0; c < 6; c++) {
            SuperDriver x = check.program("0/2/cased " + CONSTRUCTORS.charAt(c) + "=K");
            for (int other = 0; other < 6; other++) {
                boolean is = other == c;
                // The second part is one for which there is a clause, and does not count.
                check.driven(x, "0" + VALUES[other] + VALUES[c], is ? 2 : 1);
                check.kinds(x, is ? "31" : "5");
                check.runs(x, false, 5, is ? 0 : 1, is ? 1 : 0, is ? "K" : "");
            }
            // A variable is none.
            check.driven(x, "0a" + VALUES[c], 2);
            check.kinds(x, "41");
        }
    }

    private void residualFunctionsUnfoldLikewise() {
        check.by(Document.TERMS, "A residual function is plain or cased likewise");
        SuperDriver x = check.program("0/1/cased K=N M=b");
        check.driven(x, "0a", 3);
        String[] values = {"K", "LN", "MNLN", "N", "OK", "PKOK"};
        String[] results = {"N", null, "LN", null, null, null};
        for (int c = 0; c < 6; c++) {
            check.dueTrue("input", Check.input(x, 0, values[c]));
            boolean is = results[c] != null;
            check.runs(x, true, 5, is ? 0 : 1, is ? 1 : 0, is ? results[c] : "");
        }
        SuperDriver y = check.program("0/1/plain 10aa", "1/2/plain Mbb");
        check.driven(y, "0a", 8);
        check.dueTrue("input", Check.input(y, 0, "LK"));
        check.residuals(y, "r0 a", "M a a");
        check.runs(y, true, 5, 0, 1, "MLKLK");
    }

    private void stuckCannotBeUnfolded() {
        check.by(Document.TERMS, "STUCK is a call that cannot be unfolded");
        SuperDriver x = check.program("0/1/plain", "1/1/plain 1a");
        check.driven(x, "0K", 1);
        check.residuals(x, "STUCK");
        check.runs(x, true, 500, 1, 0, "");
        check.driven(x, "MK0K", 3);
        check.runs(x, true, 500, 1, 0, "");
        // STUCK stands before the call that could be unfolded.
        check.driven(x, "M0K1K", 4);
        check.residuals(x, "M STUCK r2");
        check.runs(x, true, 500, 1, 0, "");
        check.driven(x, "M1K0K", 4);
        check.residuals(x, "M r1 STUCK");
        check.runs(x, true, 7, 2, 7, "");
    }

    // ---- the next call ----

    private void firstFromTheLeft() {
        check.by(Document.TERMS, "THE NEXT CALL of a term is that of its first sign, from the left,"
            + " that is a function or STUCK");
        SuperDriver x = check.program("0/1/plain 0a", "1/1/plain", "2/1/plain a");
        check.due("goal", Check.goal(x, "M0K1K"), Check.DONE);
        check.runs(x, false, 9, 2, 9, "");
        check.due("goal", Check.goal(x, "M1K0K"), Check.DONE);
        check.runs(x, false, 9, 1, 0, "");
        check.due("goal", Check.goal(x, "PKM2N1K"), Check.DONE);
        check.runs(x, false, 9, 1, 1, "");
        check.due("goal", Check.goal(x, "MLMKN2MOKN"), Check.DONE);
        check.runs(x, false, 9, 0, 1, "MLMKNMOKN");
        check.due("no call", Check.goal(x, "MLMKNMOKN"), Check.DONE);
        check.runs(x, false, 9, 0, 0, "MLMKNMOKN");
    }

    private void plainDoesNotWait() {
        check.by(Document.TERMS, "but as long as that function is cased");
        SuperDriver x = check.program("0/1/plain 0a", "1/1/plain K", "2/1/plain", "3/2/plain b");
        check.due("goal", Check.goal(x, "10K"), Check.DONE);
        check.runs(x, false, 9, 0, 1, "K");
        check.due("goal", Check.goal(x, "12K"), Check.DONE);
        check.runs(x, false, 9, 0, 1, "K");
        check.due("goal", Check.goal(x, "32K1N"), Check.DONE);
        check.runs(x, false, 9, 0, 2, "K");
        check.driven(x, "310aN", 2);
        check.kinds(x, "31");
        check.terms(x, "f3 f1 f0 a N", "N");
    }

    private void casedWaits() {
        check.by(Document.TERMS, "and the sign behind it is a function or STUCK, too, it is that of"
            + " the sign behind");
        SuperDriver x = check.program("0/2/cased K=a N=K", "1/1/plain a");
        check.driven(x, "0001KNLKN", 5);
        check.kinds(x, "33331");
        check.terms(x, "f0 f0 f0 f1 K N L K N", "f0 f0 f0 K N L K N", "f0 f0 N L K N", "f0 K N",
            "N");
        check.driven(x, "001aKb", 6);
        check.kinds(x, "343311");
        check.terms(x, "f0 f0 f1 a K b", "f0 f0 a K b", "f0 K b", "f0 K b", "b", "b");
        // A call in a part of the first part, or in another part, is not waited for.
        SuperDriver y = check.program("0/2/cased L=b", "1/1/plain");
        check.driven(y, "0L1KN", 2);
        check.terms(y, "f0 L f1 K N", "N");
        check.driven(y, "0a1K", 2);
        check.terms(y, "f0 a f1 K", "f1 K");
        check.kinds(y, "45");
    }
}
