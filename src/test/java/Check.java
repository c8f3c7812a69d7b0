/** What the tests share: answers that are due, and a desk to type at. */
final class Check {
    /** What a call that throws answers here. */
    static final long ARGUMENT = -1001;
    static final long STATE = -1002;
    static final long UNSUPPORTED = -1003;
    /** What a call that ends without an answer or an exception answers here. */
    static final long DONE = -1000;

    /** A call of the face that may throw. */
    interface Call {
        long answer();
    }

    private final String name;
    private int made = 0;
    private int wrong = 0;

    Check(String name) {
        this.name = name;
    }

    static long answer(Call call) {
        try {
            return call.answer();
        } catch (IllegalArgumentException e) {
            return e.getClass() == IllegalArgumentException.class ? ARGUMENT : other(e);
        } catch (IllegalStateException e) {
            return e.getClass() == IllegalStateException.class ? STATE : other(e);
        } catch (UnsupportedOperationException e) {
            return e.getClass() == UnsupportedOperationException.class ? UNSUPPORTED : other(e);
        }
    }

    private static long other(RuntimeException e) {
        throw new IllegalCallerException("the document names no such exception", e);
    }

    void due(String what, long got, long want) {
        made++;
        if (got != want) {
            wrong++;
            System.out.println(name + ": " + what + " answered " + got + ", due is " + want);
        }
    }

    void due(String what, String got, String want) {
        made++;
        if (!got.equals(want)) {
            wrong++;
            System.out.println(name + ": " + what + " answered " + got + ", due is " + want);
        }
    }

    void dueTrue(String what, boolean got) {
        due(what, got ? 1 : 0, 1);
    }

    void dueFalse(String what, boolean got) {
        due(what, got ? 1 : 0, 0);
    }

    int wrong() {
        return wrong;
    }

    void end() {
        System.out.println(name + ": " + made + " answers, " + wrong + " not as due");
        if (wrong != 0) {
            System.exit(1);
        }
    }

    static long part(String letters) {
        long part = 0;
        for (int i = 0; i < letters.length(); i++) {
            part = part << 8 | letters.charAt(i);
        }
        return part;
    }

    static boolean type(SuperDriver x, String letters) {
        for (int i = 0; i < letters.length(); i += 8) {
            if (!x.type(part(letters.substring(i, Math.min(i + 8, letters.length()))))) {
                return false;
            }
        }
        return true;
    }

    static long function(SuperDriver x, int f, int parts, boolean cased) {
        return answer(() -> {
            x.function(f, parts, cased);
            return DONE;
        });
    }

    static long body(SuperDriver x, int f, int c) {
        return answer(() -> {
            x.body(f, c);
            return DONE;
        });
    }

    static long body(SuperDriver x, int f, int c, String letters) {
        type(x, letters);
        return body(x, f, c);
    }

    static long goal(SuperDriver x) {
        return answer(() -> {
            x.goal();
            return DONE;
        });
    }

    static long goal(SuperDriver x, String letters) {
        type(x, letters);
        return goal(x);
    }

    static boolean input(SuperDriver x, int v, String letters) {
        type(x, letters);
        return x.input(v);
    }

    static long drive(SuperDriver x) {
        return answer(x::drive);
    }

    static long run(SuperDriver x, boolean driven, int fuel) {
        return answer(() -> x.run(driven, fuel));
    }

    /** What the nodes are, a digit each. */
    static String kinds(SuperDriver x) {
        StringBuilder out = new StringBuilder();
        for (int n = 0; x.node(n, 0) != SuperDriver.NONE; n++) {
            out.append(x.node(n, 0));
        }
        return out.toString();
    }

    static String term(SuperDriver x, int n) {
        StringBuilder out = new StringBuilder();
        for (int i = 0; i < x.term(n, SuperDriver.NONE); i++) {
            out.append(i == 0 ? "" : " ").append(sign(x.term(n, i)));
        }
        return out.toString();
    }

    static String residual(SuperDriver x, int n) {
        StringBuilder out = new StringBuilder();
        for (int i = 0; i < x.residual(n, SuperDriver.NONE); i++) {
            out.append(i == 0 ? "" : " ").append(sign(x.residual(n, i)));
        }
        return out.toString();
    }

    static String result(SuperDriver x) {
        StringBuilder out = new StringBuilder();
        for (int i = 0; i < x.result(SuperDriver.NONE); i++) {
            out.append((char) ('K' + x.result(i)));
        }
        return out.toString();
    }

    /** Variables a .. h and x8, x9, ..; constructors K .. P; functions f0 .. f7; residual r0 ... */
    private static String sign(int sign) {
        if (sign < 8) {
            return String.valueOf((char) ('a' + sign));
        }
        if (sign < 100) {
            return "x" + sign;
        }
        if (sign < 200) {
            return String.valueOf((char) ('K' + sign - 100));
        }
        if (sign < 300) {
            return "f" + (sign - 200);
        }
        return sign == 400 ? "STUCK" : "r" + (sign - 300);
    }
}
