import java.util.ArrayList;
import java.util.List;
import java.util.Random;

/** Runs of calls on a SuperDriver and on the Oracle: each answer must be the same. */
public final class OracleTest {
    private static final String CONSTRUCTORS = "KLMNOP";
    private static final int[] ARITY = {0, 1, 2, 0, 1, 2};
    private static final int NONE = SuperDriver.NONE;
    private static final int RUNS = 3000;
    private static final int CALLS = 512;

    private static final Check check = new Check("OracleTest");
    private static final int[] kindsSeen = new int[8];
    private static final int[] endsSeen = new int[8];
    private static int tooGreat = 0;
    private static int sameValues = 0;

    private final Random random;
    private SuperDriver x = new SuperDriver();
    /** How many calls x had, and those of them that changed something. */
    private int calls = 0;
    private final List<Check.Call> changes = new ArrayList<>();
    private final Oracle oracle = new Oracle();
    private final StringBuilder log = new StringBuilder();
    private final int[] parts = new int[8];
    private final boolean[] cased = new boolean[8];

    private OracleTest(long seed) {
        random = new Random(seed);
        log.append("seed ").append(seed).append(": ");
    }

    public static void main(String[] args) {
        int runs = Integer.getInteger("runs", RUNS);
        for (int seed = 0; seed < runs && check.wrong() < 10; seed++) {
            OracleTest test = new OracleTest(seed);
            if (seed % 4 == 3) {
                test.anyCalls();
            } else {
                test.program();
            }
        }
        // The programs must be of use: all that a node or a run can be has to come.
        for (int kind = 0; kind < kindsSeen.length; kind++) {
            check.dueTrue("some node is " + kind, kindsSeen[kind] > runs / 100);
        }
        for (int end = 0; end < 4; end++) {
            check.dueTrue("some run ends with " + end, endsSeen[end] > runs / 100);
        }
        check.dueTrue("some goals are too great", tooGreat > runs / 100);
        check.dueTrue("some goals have the same value in both programs", sameValues > runs / 100);
        if (runs != RUNS) {
            System.out.println(java.util.Arrays.toString(kindsSeen));
            System.out.println(java.util.Arrays.toString(endsSeen) + " " + tooGreat
                + " " + sameValues);
        }
        check.end();
    }

    /** A call that changes something, or may do so. */
    private long both(String what, Check.Call mine, Check.Call theirs) {
        long got = look(what, mine, theirs);
        changes.add(mine);
        return got;
    }

    private long look(String what, Check.Call mine, Check.Call theirs) {
        if (calls >= CALLS) {
            renew();
        }
        calls++;
        log.append(what).append(' ');
        long got = Check.answer(mine);
        long want = Check.answer(theirs);
        if (got != want) {
            check.due(log.toString(), got, want);
        } else {
            check.due(what, got, want);
        }
        return got;
    }

    /** Of an object that had 512 calls nothing is promised: so there is another one like it. */
    private void renew() {
        x = new SuperDriver();
        calls = changes.size();
        for (Check.Call change : changes) {
            Check.answer(change);
        }
        check.dueTrue("room for more calls than " + calls, calls < CALLS);
    }

    // ---- the calls, on both ----

    private void type(long part) {
        both("type(" + part + ")", () -> x.type(part) ? 1 : 0, () -> oracle.type(part) ? 1 : 0);
    }

    private void typeAll(String letters) {
        for (int i = 0; i < letters.length(); i += 8) {
            type(Check.part(letters.substring(i, Math.min(i + 8, letters.length()))));
        }
    }

    private void wipe() {
        both("wipe()", () -> {
            x.wipe();
            return Check.DONE;
        }, () -> {
            oracle.wipe();
            return Check.DONE;
        });
    }

    private void forget() {
        both("forget()", () -> {
            x.forget();
            return Check.DONE;
        }, () -> {
            oracle.forget();
            return Check.DONE;
        });
        java.util.Arrays.fill(parts, 0);
    }

    private void function(int f, int count, boolean isCased) {
        long got = both("function(" + f + ", " + count + ", " + isCased + ")",
            () -> Check.function(x, f, count, isCased),
            () -> {
                oracle.function(f, count, isCased);
                return Check.DONE;
            });
        if (got == Check.DONE) {
            parts[f] = count;
            cased[f] = isCased;
        }
    }

    private void body(int f, int c) {
        both("body(" + f + ", " + c + ")", () -> Check.body(x, f, c), () -> {
            oracle.body(f, c);
            return Check.DONE;
        });
    }

    private void goal() {
        both("goal()", () -> Check.goal(x), () -> {
            oracle.goal();
            return Check.DONE;
        });
    }

    private void input(int v) {
        both("input(" + v + ")", () -> x.input(v) ? 1 : 0, () -> oracle.input(v) ? 1 : 0);
    }

    private long drive() {
        long got = both("drive()", () -> x.drive(), oracle::drive);
        if (got == Check.UNSUPPORTED) {
            tooGreat++;
        }
        return got;
    }

    private void look(int n, int i) {
        look("node(" + n + ", " + i + ")", () -> x.node(n, i), () -> oracle.node(n, i));
        look("term(" + n + ", " + i + ")", () -> x.term(n, i), () -> oracle.term(n, i));
        look("residual(" + n + ", " + i + ")", () -> x.residual(n, i), () -> oracle.residual(n, i));
    }

    private void result(int i) {
        look("result(" + i + ")", () -> x.result(i), () -> oracle.result(i));
    }

    private int run(boolean driven, int fuel) {
        long got = both("run(" + driven + ", " + fuel + ")",
            () -> x.run(driven, fuel), () -> oracle.run(driven, fuel));
        look("steps()", () -> x.steps(), oracle::steps);
        int length = log.length();
        for (int i = -2; i < oracle.result(NONE) + 1; i++) {
            result(i);
            log.setLength(length);
        }
        if (got >= 0) {
            endsSeen[(int) got]++;
        }
        return (int) got;
    }

    private void lookAtAll(long nodes) {
        int length = log.length();
        for (int n = -1; n <= nodes; n++) {
            int last = Math.max(4, Math.max(oracle.term(n, NONE), oracle.residual(n, NONE)));
            for (int i = -2; i <= last; i++) {
                look(n, i);
                log.setLength(length);
            }
            if (oracle.node(n, 0) != NONE) {
                kindsSeen[oracle.node(n, 0)]++;
            }
        }
    }

    // ---- programs ----

    private void program() {
        int count = 1 + random.nextInt(4);
        for (int k = 0; k < count; k++) {
            function(random.nextInt(8), 1 + random.nextInt(3), random.nextInt(3) != 0);
        }
        for (int f = 0; f < 8; f++) {
            if (parts[f] > 0) {
                bodies(f);
            }
        }
        for (int round = 0; round < 3; round++) {
            typeAll(someCall(1 + random.nextInt(4), 1 + random.nextInt(3)));
            goal();
            lookAtAll(drive());
            for (int v = 0; v < 4; v++) {
                wipe();
                typeAll(someTerm(0, random.nextInt(6), false));
                input(v);
            }
            wipe();
            runBoth();
            run(random.nextBoolean(), 1 + random.nextInt(20));
        }
    }

    private void bodies(int f) {
        int size = random.nextInt(4);
        if (!cased[f]) {
            if (random.nextInt(12) != 0) {
                typeAll(someTerm(parts[f], size, true));
                body(f, NONE);
            }
            return;
        }
        for (int c = 0; c < 6; c++) {
            if (random.nextInt(c < 3 ? 5 : 3) > (c < 3 ? 0 : 1)) {
                typeAll(someTerm(ARITY[c] + parts[f] - 1, size, true));
                body(f, c);
                wipe();
            }
        }
    }

    /** The supercompiler's own promise: what the one program computes the other one does, too. */
    private void runBoth() {
        int plain = run(false, 500);
        List<Integer> value = value();
        int driven = run(true, 500);
        if (plain >= 0 && plain < 2 && driven >= 0 && driven < 2) {
            check.due(log + "both ends", driven, plain);
            check.due(log + "both values", value().toString(), value.toString());
            sameValues++;
        }
    }

    /** As the oracle has it: that x has the same was looked at behind the run. */
    private List<Integer> value() {
        List<Integer> all = new ArrayList<>();
        for (int i = 0; i < oracle.result(NONE); i++) {
            all.add(oracle.result(i));
        }
        return all;
    }

    private String someTerm(int variables, int size, boolean calls) {
        StringBuilder out = new StringBuilder();
        addTerm(out, variables, size, calls);
        return out.length() > 24 ? variables > 0 ? "a" : "K" : out.toString();
    }

    private String someCall(int variables, int size) {
        StringBuilder out = new StringBuilder();
        int f = someFunction();
        if (f == NONE) {
            return someTerm(variables, size, true);
        }
        out.append(f);
        for (int k = 0; k < parts[f]; k++) {
            addTerm(out, variables, random.nextInt(size + 1), true);
        }
        return out.length() > 24 ? "a" : out.toString();
    }

    private int someFunction() {
        for (int tries = 0; tries < 30; tries++) {
            int f = random.nextInt(8);
            if (parts[f] > 0) {
                return f;
            }
        }
        return NONE;
    }

    private void addTerm(StringBuilder out, int variables, int size, boolean calls) {
        if (size <= 0) {
            if (variables > 0 && random.nextInt(5) != 0) {
                out.append((char) ('a' + random.nextInt(variables)));
            } else {
                out.append(random.nextInt(4) == 0 ? 'N' : 'K');
            }
            return;
        }
        int f = calls && random.nextInt(5) > 1 ? someFunction() : NONE;
        int c = random.nextInt(10) > 6 ? random.nextInt(6) : random.nextInt(3);
        out.append(f == NONE ? CONSTRUCTORS.charAt(c) : (char) ('0' + f));
        for (int k = f == NONE ? ARITY[c] : parts[f]; k > 0; k--) {
            addTerm(out, variables, size - 1 - random.nextInt(2), calls);
        }
    }

    // ---- any calls ----

    private void anyCalls() {
        for (int k = 0; k < 120; k++) {
            switch (random.nextInt(16)) {
                case 0: type(random.nextLong()); break;
                case 1: type(Check.part(letters(random.nextInt(9)))); break;
                case 2: if (random.nextInt(3) == 0) { wipe(); } break;
                case 3: if (random.nextInt(20) == 0) { forget(); } break;
                case 4: function(random.nextInt(11) - 1, random.nextInt(5), random.nextBoolean()); break;
                case 5: case 6: wipe(); typeAll(someTerm(random.nextInt(6), random.nextInt(3), true)); break;
                case 7: case 8: body(random.nextInt(10) - 1, random.nextInt(9) - 2); break;
                case 9: typeAll(someCall(2, 1)); goal(); break;
                case 10: goal(); break;
                case 11: typeAll(someTerm(0, random.nextInt(4), false)); input(random.nextInt(10) - 1); break;
                case 12: lookAtAll(drive()); break;
                case 13: look(random.nextInt(60) - 4, random.nextInt(60) - 4); break;
                case 14: run(random.nextBoolean(), random.nextInt(520) - 5); break;
                default: result(random.nextInt(30) - 4); break;
            }
        }
    }

    private String letters(int count) {
        StringBuilder out = new StringBuilder();
        for (int k = 0; k < count; k++) {
            String all = random.nextInt(40) == 0 ? "ijJQ89 \u00ff`@/" : "abcdefghKLMNOP01234567";
            out.append(all.charAt(random.nextInt(all.length())));
        }
        return out.toString();
    }
}
