/** What the document says of an object and its text: promises 1 to 4. */
final class TextCases {
    private static final int NONE = SuperDriver.NONE;
    private static final String LETTERS = "abcdefghKLMNOP01234567";
    private static final String FULL = "LLLLLLLLLLLLLLLLLLLLLLLK";

    private final Check check;

    TextCases(Check check) {
        this.check = check;
    }

    void all() {
        fiveHundredAndTwelveCalls();
        none();
        newObject();
        highestByteFirst();
        zeroBytes();
        behindWhatIsThere();
        wrongLetters();
        oneWrongLetterAmongEight();
        upTo24();
        refusedLettersAreNotAdded();
        wipe();
        wipeLeavesAllElse();
        forget();
        forgetGivesRoom();
    }

    private void fiveHundredAndTwelveCalls() {
        check.by(Document.WHAT, "An object is used for at most 512 calls after it has been made");
        SuperDriver x = check.program("0/2/cased K=a M=Ma0bc");
        check.due("goal", Check.goal(x, "0aMNK"), Check.DONE);
        check.dueTrue("input", Check.input(x, 0, "MNK"));
        for (int calls = 10; calls <= 512; calls++) {
            String what = "call " + calls;
            switch ((calls - 10) % 9) {
                case 0: check.due(what, Check.drive(x), 7); break;
                case 1: check.due(what, x.node(6, 0), 6); break;
                case 2: check.due(what, x.term(6, NONE), 5); break;
                case 3: check.due(what, x.residual(6, 1), 9); break;
                case 4: check.due(what, Check.run(x, false, 1), 2); break;
                case 5: check.due(what, Check.run(x, true, 500), 0); break;
                case 6: check.due(what, x.result(NONE), 5); break;
                case 7: check.due(what, x.steps(), 2); break;
                default: check.dueFalse(what, x.type('i')); break;
            }
        }
        SuperDriver y = new SuperDriver();
        for (int calls = 1; calls <= 512; calls += 4) {
            check.dueTrue("call " + calls, y.type(Check.part("LLLLLLLL")));
            check.dueTrue("call " + (calls + 1), y.type(Check.part("LLLLLLLL")));
            check.dueTrue("call " + (calls + 2), y.type(Check.part("LLLLLLLK")));
            check.dueTrue("call " + (calls + 3), y.input(0));
        }
    }

    private void none() {
        check.by(Document.TERMS, "`NONE = -1`: There is none");
        check.due("NONE", NONE, -1);
    }

    // ---- promise 1 ----

    private void newObject() {
        allIsNew("a new object", new SuperDriver(), Document.NEW, null);
        SuperDriver used = check.program("0/1/plain LK");
        check.driven(used, "0K", 3);
        allIsNew("a second object", new SuperDriver(), Document.NEW, null);
    }

    /** Each is asked for by its own words, or all by the same. */
    private void allIsNew(String name, SuperDriver x, String section, String words) {
        check.by(section, words == null ? "no tree" : words);
        for (int w = -1; w < 5; w++) {
            check.due(name + ": node(0, " + w + ")", x.node(0, w), NONE);
            check.due(name + ": term(0, " + w + ")", x.term(0, w), NONE);
            check.due(name + ": residual(0, " + w + ")", x.residual(0, w), NONE);
        }
        check.due(name + ": steps()", x.steps(), 0);
        check.due(name + ": result(NONE)", x.result(NONE), NONE);
        check.due(name + ": result(0)", x.result(0), NONE);
        check.by(section, words == null ? "no goal" : words);
        check.due(name + ": drive()", Check.drive(x), Check.STATE);
        check.due(name + ": run(false, 1)", Check.run(x, false, 1), Check.STATE);
        check.due(name + ": run(true, 1)", Check.run(x, true, 1), Check.STATE);
        check.by(section, words == null ? "an empty text" : words);
        check.due(name + ": goal() of no text", Check.goal(x), Check.ARGUMENT);
        check.dueFalse(name + ": input(0) of no text", x.input(0));
        check.by(section, words == null ? "no inputs" : words);
        for (int v = 0; v < 8; v++) {
            check.due(name + ": goal " + v, Check.goal(x, LETTERS.substring(v, v + 1)), Check.DONE);
            check.due(name + ": no input " + v, Check.run(x, false, 1), Check.STATE);
        }
        check.by(section, words == null ? "an empty text" : words);
        check.dueTrue(name + ": 24 letters have room", Check.type(x, FULL));
        check.dueTrue(name + ": input(0) of 24 letters", x.input(0));
        check.due(name + ": goal", Check.goal(x, "a"), Check.DONE);
        check.due(name + ": run", Check.run(x, false, 1), 0);
        check.due(name + ": the 24 letters alone", Check.result(x), FULL);
        check.by(section, words == null ? "No functions" : words);
        for (int f = 0; f < 8; f++) {
            check.due(name + ": body of " + f, Check.body(x, f, NONE, "K"), Check.STATE);
            x.wipe();
            check.due(name + ": call of " + f, Check.goal(x, f + "K"), Check.ARGUMENT);
            x.wipe();
            check.due(name + ": function " + f, Check.function(x, f, 1, f % 2 == 0), Check.DONE);
            check.driven(x, f + "a", 1);
            check.due(name + ": neither body nor clauses", x.node(0, 0), f % 2 == 0 ? 4 : 5);
        }
    }

    // ---- promise 2 ----

    private void highestByteFirst() {
        check.by(Document.TYPE,
            "Adds the characters that are the eight bytes of part, the highest first");
        SuperDriver x = new SuperDriver();
        check.dueTrue("type(MaMbMcMd)", x.type(0x4d614d624d634d64L));
        check.dueTrue("type(MeMfMgMh)", x.type(0x4d654d664d674d68L));
        check.dueTrue("type(PNOLK)", x.type(0x504e4f4c4bL));
        check.due("goal()", Check.goal(x), Check.DONE);
        check.due("drive()", Check.drive(x), 21);
        check.terms(x, "M a M b M c M d M e M f M g M h P N O L K");
        SuperDriver y = new SuperDriver();
        for (int f = 0; f < 8; f++) {
            check.due("function", Check.function(y, f, 1, false), Check.DONE);
        }
        check.dueTrue("type(01234567)", y.type(0x3031323334353637L));
        check.dueTrue("type(K)", y.type(0x4bL));
        check.due("goal()", Check.goal(y), Check.DONE);
        check.due("drive()", Check.drive(y), 1);
        check.terms(y, "f0 f1 f2 f3 f4 f5 f6 f7 K");
    }

    private void zeroBytes() {
        check.by(Document.TYPE, "(bytes that are 0 are passed over)");
        SuperDriver x = new SuperDriver();
        check.dueTrue("type(0)", x.type(0));
        check.due("goal() of no text", Check.goal(x), Check.ARGUMENT);
        check.dueTrue("zeros between and behind", x.type(0x4d00006100004b00L));
        check.driven(x, "", 3);
        check.terms(x, "M a K");
        for (int shift = 0; shift < 64; shift += 8) {
            check.dueTrue("one letter at " + shift, x.type((long) 'N' << shift));
            check.driven(x, "", 1);
            check.terms(x, "N");
        }
    }

    private void behindWhatIsThere() {
        check.by(Document.TYPE, "to the text: true");
        SuperDriver x = new SuperDriver();
        check.dueTrue("type(M)", x.type('M'));
        check.dueTrue("type(LN)", x.type(Check.part("LN")));
        check.dueTrue("type(h)", x.type('h'));
        check.driven(x, "", 4);
        check.terms(x, "M L N h");
    }

    private void wrongLetters() {
        check.by(Document.TYPE, "false if one of them is none of a .. h, K .. P, 0 .. 7");
        for (int letter = 1; letter < 256; letter++) {
            boolean right = LETTERS.indexOf(letter) >= 0;
            for (int shift = 0; shift < 64; shift += 8) {
                boolean got = new SuperDriver().type((long) letter << shift);
                check.due("letter " + letter + " at " + shift, got ? 1 : 0, right ? 1 : 0);
            }
        }
        check.dueFalse("type(-1)", new SuperDriver().type(-1));
        check.dueFalse("type(MIN)", new SuperDriver().type(Long.MIN_VALUE));
        check.dueFalse("type(MAX)", new SuperDriver().type(Long.MAX_VALUE));
    }

    private void oneWrongLetterAmongEight() {
        check.by(Document.TYPE, "false if one of them is none of");
        long right = Check.part("LLLLLLLK");
        for (int shift = 0; shift < 64; shift += 8) {
            for (int letter : new int[] {1, '/', '8', 'J', 'Q', '`', 'i', 128, 'a' + 128, 255}) {
                SuperDriver x = new SuperDriver();
                long part = right & ~(255L << shift) | (long) letter << shift;
                check.dueFalse("letter " + letter + " at " + shift, x.type(part));
                check.due("nothing is typed", Check.goal(x), Check.ARGUMENT);
            }
        }
    }

    private void upTo24() {
        check.by(Document.TYPE, "or there would be more than 24");
        for (int there = 0; there <= 24; there++) {
            for (int more = 0; more <= 8; more++) {
                SuperDriver x = new SuperDriver();
                check.dueTrue(there + " letters", Check.type(x, "L".repeat(there)));
                boolean got = x.type(Check.part("L".repeat(more)));
                check.due(there + " letters and " + more, got ? 1 : 0, there + more <= 24 ? 1 : 0);
            }
        }
        SuperDriver x = new SuperDriver();
        check.dueTrue("24 letters", Check.type(x, FULL));
        check.dueFalse("a letter that is none", x.type('i'));
        check.dueTrue("seven zeros are no letters", new SuperDriver().type(0x4bL << 56));
        check.driven(x, "", 24);
        check.due("24 signs", x.term(0, NONE), 24);
    }

    private void refusedLettersAreNotAdded() {
        check.by(Document.TYPE, "or there would be more than 24");
        SuperDriver x = new SuperDriver();
        check.dueTrue("23 letters", Check.type(x, FULL.substring(1, 24).replace('K', 'L')));
        check.dueFalse("25 letters", x.type(Check.part("KK")));
        check.dueTrue("the 24th", x.type('N'));
        check.dueFalse("a 25th", x.type('K'));
        check.driven(x, "", 24);
        check.due("the last sign", x.term(0, 23), 103);
        check.dueTrue("24 more", Check.type(x, FULL));
        check.dueFalse("but no more", x.type('K'));
    }

    // ---- promises 3 and 4 ----

    private void wipe() {
        check.by(Document.WIPE, "The text becomes empty");
        for (int there = 0; there <= 24; there++) {
            SuperDriver x = new SuperDriver();
            check.dueTrue(there + " letters", Check.type(x, FULL.substring(24 - there)));
            x.wipe();
            check.due("goal() of no text", Check.goal(x), Check.ARGUMENT);
            check.dueTrue("24 letters have room", Check.type(x, FULL));
            check.driven(x, "", 24);
        }
    }

    private void wipeLeavesAllElse() {
        check.by(Document.WIPE, "The text becomes empty");
        SuperDriver x = check.program("0/1/plain La");
        check.dueTrue("input", Check.input(x, 0, "N"));
        check.driven(x, "0a", 3);
        check.runs(x, true, 5, 0, 0, "LN");
        Check.type(x, "LLL");
        x.wipe();
        check.kinds(x, "321");
        check.due("result", Check.result(x), "LN");
        check.runs(x, true, 5, 0, 0, "LN");
        check.runs(x, false, 5, 0, 1, "LN");
        x.wipe();
        check.due("steps()", x.steps(), 1);
        check.due("drive()", Check.drive(x), 3);
    }

    private void forget() {
        SuperDriver x = everythingSet();
        x.forget();
        allIsNew("forgotten", x, Document.FORGET, "All is as at the beginning");
        x.forget();
        x.forget();
        allIsNew("forgotten twice", x, Document.FORGET, "All is as at the beginning");
        SuperDriver y = new SuperDriver();
        y.forget();
        allIsNew("nothing to forget", y, Document.FORGET, "All is as at the beginning");
    }

    private SuperDriver everythingSet() {
        check.by(Document.FORGET, "All is as at the beginning");
        SuperDriver x = new SuperDriver();
        for (int f = 0; f < 8; f++) {
            boolean cased = f % 2 == 0;
            check.due("function", Check.function(x, f, 1 + f % 3, cased), Check.DONE);
            for (int c = cased ? 0 : NONE; c < (cased ? 6 : 0); c++) {
                check.due("body", Check.body(x, f, c, "K"), Check.DONE);
            }
            check.dueTrue("input", Check.input(x, f, "LK"));
        }
        check.driven(x, "0a", 7);
        check.runs(x, true, 9, 0, 1, "K");
        Check.type(x, FULL);
        return x;
    }

    private void forgetGivesRoom() {
        check.by(Document.FORGET, "All is as at the beginning");
        SuperDriver x = everythingSet();
        x.forget();
        check.due("function", Check.function(x, 0, 2, true), Check.DONE);
        check.driven(x, "0ab", 1);
        check.kinds(x, "4");
        check.due("function", Check.function(x, 1, 3, false), Check.DONE);
        check.driven(x, "1abc", 1);
        check.kinds(x, "5");
    }
}
