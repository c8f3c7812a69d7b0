/**
 * A supercompiler for a small lazy language: it drives a goal into a tree of nodes, reads a
 * residual program off the tree, and runs both the program and the residual one.
 */
public final class SuperDriver {
    /** There is none. */
    public static final int NONE = -1;

    private static final int INPUTS = 8;
    private static final int VARIABLES = 100;
    private static final int CONSTRUCTOR = 100;
    private static final int CONSTRUCTORS = 6;
    private static final int FUNCTION = 200;
    private static final int FUNCTIONS = 8;
    private static final int RESIDUAL = 300;
    private static final int STUCK_SIGN = 400;
    private static final int SIGNS = 401;
    private static final int[] CONSTRUCTOR_PARTS = {0, 1, 2, 0, 1, 2};

    private static final int TEXT_LIMIT = 24;
    private static final int NODE_LIMIT = 48;
    private static final int TERM_LIMIT = 40;
    /** Each variable may become a constructor with two parts before the term is unfolded. */
    private static final int SPLIT_LIMIT = 3 * TERM_LIMIT;
    private static final int RESIDUAL_LIMIT = 100;
    private static final int ROW_LIMIT = 200;
    private static final int FUEL_LIMIT = 500;

    private static final int GONE = 0;
    private static final int LEAF = 1;
    private static final int BUILD = 2;
    private static final int STEP = 3;
    private static final int SPLIT = 4;
    private static final int STUCK = 5;
    private static final int FOLD = 6;
    private static final int LET = 7;
    private static final int OPEN = 8;

    private static final int FINISHED = 0;
    private static final int UNFOLDS_NOT = 1;
    private static final int OUT_OF_FUEL = 2;
    private static final int ROW_TOO_LONG = 3;
    private static final int GOES_ON = 4;

    private final Row text;
    private final Row goal;
    private final Row[] inputs;
    private final Signs signs;
    private final SourceProgram source;
    private final Tree tree;
    private final Driver driver;
    private final ResidualProgram residue;
    private final Runner runner;

    public SuperDriver() {
        text = new Row(TEXT_LIMIT);
        goal = new Row(TEXT_LIMIT);
        inputs = new Row[INPUTS];
        for (int v = 0; v < INPUTS; v++) {
            inputs[v] = new Row(TEXT_LIMIT);
        }
        // One substitution serves all: each use binds and applies before the next begins.
        Substitution change = new Substitution();
        signs = new Signs();
        source = new SourceProgram(signs, change);
        tree = new Tree();
        driver = new Driver(signs, source, tree, change);
        residue = new ResidualProgram(signs, change, tree);
        runner = new Runner(signs, change);
    }

    public boolean type(long part) {
        int letters = 0;
        for (int shift = 56; shift >= 0; shift -= 8) {
            int letter = letterAt(part, shift);
            if (letter != 0) {
                if (signOf(letter) == NONE) {
                    return false;
                }
                letters++;
            }
        }
        if (text.length() + letters > TEXT_LIMIT) {
            return false;
        }
        for (int shift = 56; shift >= 0; shift -= 8) {
            int letter = letterAt(part, shift);
            if (letter != 0) {
                text.add(signOf(letter));
            }
        }
        return true;
    }

    public void wipe() {
        text.clear();
    }

    public void forget() {
        text.clear();
        goal.clear();
        for (int v = 0; v < INPUTS; v++) {
            inputs[v].clear();
        }
        source.clear();
        tree.clear();
        runner.clear();
    }

    public void function(int f, int parts, boolean cased)
            throws IllegalArgumentException, IllegalStateException {
        if (f < 0 || f >= FUNCTIONS || parts < 1 || parts > 3) {
            throw new IllegalArgumentException("no such function or number of parts");
        }
        if (source.isDeclared(f)) {
            throw new IllegalStateException("the function is declared");
        }
        source.declare(f, parts, cased);
        tree.clear();
    }

    public void body(int f, int c) throws IllegalStateException, IllegalArgumentException {
        if (!source.isDeclared(f)) {
            throw new IllegalStateException("the function is not declared");
        }
        if (!source.mayHave(f, c, text)) {
            throw new IllegalArgumentException("no such clause, or no body for it");
        }
        source.define(f, c, text);
        text.clear();
        tree.clear();
    }

    public void goal() throws IllegalArgumentException {
        if (!signs.isTerm(text)) {
            throw new IllegalArgumentException("the text is no term");
        }
        goal.copy(text);
        text.clear();
        tree.clear();
    }

    public boolean input(int v) {
        if (v < 0 || v >= INPUTS || !signs.isValue(text)) {
            return false;
        }
        inputs[v].copy(text);
        text.clear();
        return true;
    }

    public int drive() throws IllegalStateException, UnsupportedOperationException {
        if (goal.isEmpty()) {
            throw new IllegalStateException("there is no goal");
        }
        driver.begin(goal);
        // New nodes get higher numbers than all done ones, so going up meets the lowest open one.
        for (int n = 0; n < NODE_LIMIT && n < tree.count(); n++) {
            driver.settle(n);
        }
        if (tree.isTooGreat() || !residue.write()) {
            tree.clear();
            throw new UnsupportedOperationException("the goal is too great to drive");
        }
        return tree.count();
    }

    public int node(int n, int w) {
        Node node = tree.get(n);
        if (node == null) {
            return NONE;
        }
        switch (w) {
            case 0:
                return node.kind;
            case 1:
                return node.above == null ? NONE : node.above.number;
            case 2:
                return node.detail;
            case 3:
                return node.functional ? 1 : 0;
            default:
                return NONE;
        }
    }

    public int term(int n, int i) {
        Node node = tree.get(n);
        if (node == null) {
            return NONE;
        }
        return i == NONE ? node.term.length() : node.term.at(i);
    }

    public int residual(int n, int i) {
        Node node = tree.get(n);
        if (node == null || node.kind == GONE) {
            return NONE;
        }
        return i == NONE ? node.residual.length() : node.residual.at(i);
    }

    public int run(boolean driven, int fuel)
            throws IllegalArgumentException, IllegalStateException {
        if (fuel < 1 || fuel > FUEL_LIMIT) {
            throw new IllegalArgumentException("no such fuel");
        }
        Row start = driven ? residue.start() : goal;
        if (start == null || goal.isEmpty() || !allInputsAreThere()) {
            throw new IllegalStateException("there is no goal, no tree, or no input for the goal");
        }
        runner.begin(start, inputs);
        return driven ? runner.go(residue, fuel) : runner.go(source, fuel);
    }

    public int result(int i) {
        return runner.constructorAt(i);
    }

    public int steps() {
        return runner.stepsMade();
    }

    private boolean allInputsAreThere() {
        for (int i = 0; i < goal.length(); i++) {
            int sign = goal.at(i);
            if (sign >= 0 && sign < INPUTS && inputs[sign].isEmpty()) {
                return false;
            }
        }
        return true;
    }

    private static int letterAt(long part, int shift) {
        return (int) (part >>> shift) & 255;
    }

    private static int signOf(int letter) {
        if (letter >= 'a' && letter <= 'h') {
            return letter - 'a';
        }
        if (letter >= 'K' && letter <= 'P') {
            return CONSTRUCTOR + letter - 'K';
        }
        if (letter >= '0' && letter <= '7') {
            return FUNCTION + letter - '0';
        }
        return NONE;
    }

    private static boolean isVariable(int sign) {
        return sign >= 0 && sign < VARIABLES;
    }

    private static boolean isConstructor(int sign) {
        return sign >= CONSTRUCTOR && sign < CONSTRUCTOR + CONSTRUCTORS;
    }

    /** Functions, residual functions and STUCK are the signs that a next call may begin with. */
    private static boolean isCall(int sign) {
        return sign >= FUNCTION;
    }

    private static int partsOfConstructor(int c) {
        return c >= 0 && c < CONSTRUCTORS ? CONSTRUCTOR_PARTS[c] : 0;
    }

    /** A row of signs with a limit; what is added beyond it is lost, and the row knows so. */
    private static final class Row {
        private final int[] held;
        private int length;
        private boolean tooLong;

        Row(int limit) {
            held = new int[Math.max(limit, 0)];
            length = 0;
            tooLong = false;
        }

        int length() {
            return length;
        }

        boolean isEmpty() {
            return length == 0;
        }

        boolean isTooLong() {
            return tooLong;
        }

        int at(int i) {
            return i >= 0 && i < length && i < held.length ? held[i] : NONE;
        }

        void clear() {
            length = 0;
            tooLong = false;
        }

        void add(int sign) {
            if (length >= 0 && length < held.length) {
                held[length] = sign;
                length++;
            } else {
                tooLong = true;
            }
        }

        void addRange(Row other, int from, int to) {
            int start = Math.max(from, 0);
            int wanted = Math.min(to, other.length) - start;
            int fitting = Math.min(wanted, held.length - length);
            if (fitting > 0) {
                System.arraycopy(other.held, start, held, length, fitting);
                length += fitting;
            }
            if (wanted > fitting) {
                tooLong = true;
            }
        }

        void copy(Row other) {
            clear();
            addRange(other, 0, other.length);
        }

        int indexOf(int sign) {
            for (int i = 0; i < length; i++) {
                if (at(i) == sign) {
                    return i;
                }
            }
            return NONE;
        }

        /** True if the signs from one place to another are those that stand at an earlier place. */
        boolean repeats(int from, int to, int earlier) {
            for (int k = 0; k < to - from; k++) {
                if (at(from + k) != at(earlier + k)) {
                    return false;
                }
            }
            return true;
        }

        boolean isRenamingOf(Row other) {
            if (length != other.length) {
                return false;
            }
            for (int i = 0; i < length; i++) {
                int sign = at(i);
                int otherSign = other.at(i);
                if (isVariable(sign) && isVariable(otherSign)) {
                    // One for one: what comes first at a place here comes first there, too.
                    if (indexOf(sign) != other.indexOf(otherSign)) {
                        return false;
                    }
                } else if (sign != otherSign) {
                    return false;
                }
            }
            return true;
        }
    }

    /** What variables stand for: each a range of signs in some row. */
    private static final class Substitution {
        private final Row[] rows = new Row[VARIABLES];
        private final int[] starts = new int[VARIABLES];
        private final int[] ends = new int[VARIABLES];
        /** A variable is bound if it bears the present stamp: so all are freed at no cost. */
        private final int[] stamps = new int[VARIABLES];
        private int stamp = 0;

        void begin() {
            stamp++;
        }

        void bind(int v, Row row, int start, int end) {
            if (isVariable(v)) {
                rows[v] = row;
                starts[v] = start;
                ends[v] = end;
                stamps[v] = stamp;
            }
        }

        /** Adds the pattern to the target, with what its variables stand for in their places. */
        void apply(Row pattern, Row target) {
            for (int i = 0; i < pattern.length() && !target.isTooLong(); i++) {
                int sign = pattern.at(i);
                if (isVariable(sign) && stamps[sign] == stamp && rows[sign] != null) {
                    target.addRange(rows[sign], starts[sign], ends[sign]);
                } else {
                    target.add(sign);
                }
            }
        }
    }

    /** How many parts each sign has and which functions are cased: so what terms are made of. */
    private static final class Signs {
        private final int[] parts = new int[SIGNS];
        private final boolean[] cased = new boolean[SIGNS];
        private final int[] innerEnds = new int[TERM_LIMIT];
        private final int[] outerEnds = new int[TERM_LIMIT];
        /** Bit i at place j: the inner term's part at i is embedded in the outer one's at j. */
        private final long[] embedded = new long[TERM_LIMIT];

        Signs() {
            for (int c = 0; c < CONSTRUCTORS; c++) {
                parts[CONSTRUCTOR + c] = CONSTRUCTOR_PARTS[c];
            }
        }

        void shape(int sign, int count, boolean isCasedOne) {
            if (isCall(sign) && sign < SIGNS) {
                parts[sign] = count;
                cased[sign] = isCasedOne;
            }
        }

        int partsOf(int sign) {
            return sign >= 0 && sign < SIGNS ? parts[sign] : 0;
        }

        boolean isCased(int sign) {
            return sign >= 0 && sign < SIGNS && cased[sign];
        }

        /** The place behind the term that begins at start. */
        int behind(Row row, int start) {
            int missing = 1;
            int i = start;
            while (i < row.length() && missing > 0) {
                missing += partsOf(row.at(i)) - 1;
                i++;
            }
            return i;
        }

        /** True for a term of a text; its functions have parts only once they are declared. */
        boolean isTerm(Row row) {
            int missing = 1;
            for (int i = 0; i < row.length(); i++) {
                int count = partsOf(row.at(i));
                if (missing == 0 || isCall(row.at(i)) && count == 0) {
                    return false;
                }
                missing += count - 1;
            }
            return missing == 0;
        }

        boolean isValue(Row row) {
            for (int i = 0; i < row.length(); i++) {
                if (!isConstructor(row.at(i))) {
                    return false;
                }
            }
            return isTerm(row);
        }

        /** The place of the next call, NONE if there is none. */
        int nextCall(Row row) {
            for (int i = 0; i < row.length(); i++) {
                int sign = row.at(i);
                // A cased function waits for the call that its first part begins with.
                if (isCall(sign) && !(isCased(sign) && isCall(row.at(i + 1)))) {
                    return i;
                }
            }
            return NONE;
        }

        boolean isEmbedded(Row inner, Row outer) {
            // An embedding finds each of the inner signs at a place of its own.
            if (inner.isEmpty() || inner.length() > outer.length() || outer.length() > TERM_LIMIT) {
                return false;
            }
            findEnds(inner, innerEnds);
            findEnds(outer, outerEnds);
            for (int j = outer.length() - 1; j >= 0; j--) {
                long found = embeddedInParts(outer.at(j), j);
                for (int i = 0; i < inner.length(); i++) {
                    if (couples(inner.at(i), i, outer.at(j), j)) {
                        found |= 1L << i;
                    }
                }
                embedded[j] = found;
            }
            return isMarked(0, 0);
        }

        private long embeddedInParts(int sign, int j) {
            long found = 0;
            int place = j + 1;
            for (int k = partsOf(sign); k > 0 && place < TERM_LIMIT; k--) {
                found |= embedded[place];
                place = outerEnds[place];
            }
            return found;
        }

        private boolean couples(int sign, int i, int outerSign, int j) {
            if (isVariable(sign) || isVariable(outerSign)) {
                return isVariable(sign) && isVariable(outerSign);
            }
            if (sign != outerSign) {
                return false;
            }
            int innerPlace = i + 1;
            int outerPlace = j + 1;
            for (int k = partsOf(sign); k > 0; k--) {
                if (!isMarked(innerPlace, outerPlace)) {
                    return false;
                }
                innerPlace = innerEnds[innerPlace];
                outerPlace = outerEnds[outerPlace];
            }
            return true;
        }

        private boolean isMarked(int i, int j) {
            return i >= 0 && i < TERM_LIMIT && j >= 0 && j < TERM_LIMIT
                && (embedded[j] >>> i & 1L) != 0;
        }

        private void findEnds(Row row, int[] ends) {
            int length = Math.min(row.length(), ends.length);
            for (int i = length - 1; i >= 0; i--) {
                int end = i + 1;
                for (int k = partsOf(row.at(i)); k > 0 && end < length; k--) {
                    end = ends[end];
                }
                ends[i] = end;
            }
        }
    }

    /** Functions with bodies: what a call becomes when it is unfolded. */
    private abstract static class Program {
        final Signs signs;
        final Substitution change;

        Program(Signs signs, Substitution change) {
            this.signs = signs;
            this.change = change;
        }

        /** The body of a plain function (c is NONE) or of a clause; null if there is none. */
        abstract Row bodyOf(int sign, int c);

        /** The variable that stands in that body for part k of the call. */
        abstract int variableOf(int sign, int c, int k);

        boolean unfolds(Row row, int at) {
            int c = constructorAskedFor(row, at);
            return !(signs.isCased(row.at(at)) && c == NONE) && bodyOf(row.at(at), c) != null;
        }

        /** Puts the row into target with the call at that place unfolded. */
        void unfold(Row row, int at, Row target) {
            int sign = row.at(at);
            int c = constructorAskedFor(row, at);
            Row body = bodyOf(sign, c);
            int next = at + 1;
            int count = signs.partsOf(sign);
            if (c != NONE) {
                // The constructor's own parts come first, and the function's others follow them.
                next++;
                count += partsOfConstructor(c) - 1;
            }
            change.begin();
            for (int k = 0; k < count; k++) {
                int end = signs.behind(row, next);
                change.bind(variableOf(sign, c, k), row, next, end);
                next = end;
            }
            target.clear();
            target.addRange(row, 0, at);
            if (body != null) {
                change.apply(body, target);
            }
            target.addRange(row, next, row.length());
        }

        private int constructorAskedFor(Row row, int at) {
            int first = row.at(at + 1);
            return signs.isCased(row.at(at)) && isConstructor(first) ? first - CONSTRUCTOR : NONE;
        }
    }

    /** The functions that were declared. */
    private static final class SourceProgram extends Program {
        /** Six for each function; a plain one has its body in the first; empty if there is none. */
        private final Row[] bodies;

        SourceProgram(Signs signs, Substitution change) {
            super(signs, change);
            bodies = new Row[FUNCTIONS * CONSTRUCTORS];
            for (int i = 0; i < bodies.length; i++) {
                bodies[i] = new Row(TEXT_LIMIT);
            }
        }

        void clear() {
            for (int f = 0; f < FUNCTIONS; f++) {
                signs.shape(FUNCTION + f, 0, false);
            }
            for (int i = 0; i < bodies.length; i++) {
                bodies[i].clear();
            }
        }

        boolean isDeclared(int f) {
            return f >= 0 && f < FUNCTIONS && signs.partsOf(FUNCTION + f) > 0;
        }

        void declare(int f, int parts, boolean cased) {
            signs.shape(FUNCTION + f, parts, cased);
        }

        /** True if declared function f may have the text as its body for c. */
        boolean mayHave(int f, int c, Row text) {
            int variables = signs.partsOf(FUNCTION + f);
            if (signs.isCased(FUNCTION + f)) {
                if (c < 0 || c >= CONSTRUCTORS) {
                    return false;
                }
                variables += partsOfConstructor(c) - 1;
            } else if (c != NONE) {
                return false;
            }
            for (int i = 0; i < text.length(); i++) {
                if (isVariable(text.at(i)) && text.at(i) >= variables) {
                    return false;
                }
            }
            return signs.isTerm(text);
        }

        void define(int f, int c, Row text) {
            Row place = placeOf(FUNCTION + f, c);
            if (place != null) {
                place.copy(text);
            }
        }

        Row bodyOf(int sign, int c) {
            Row place = placeOf(sign, c);
            return place == null || place.isEmpty() ? null : place;
        }

        int variableOf(int sign, int c, int k) {
            return k;
        }

        private Row placeOf(int sign, int c) {
            int f = sign - FUNCTION;
            if (f < 0 || f >= FUNCTIONS || c < NONE || c >= CONSTRUCTORS) {
                return null;
            }
            return bodies[f * CONSTRUCTORS + (c == NONE ? 0 : c)];
        }
    }

    /** One node of the tree. */
    private static final class Node {
        private final int number;
        private final Row term = new Row(TERM_LIMIT);
        private final Row residual = new Row(RESIDUAL_LIMIT);
        private Node above;
        private Node firstBelow;
        private Node lastBelow;
        private Node beside;
        private int kind;
        /** The constructor of a BUILD, v of a SPLIT, target of a FOLD, new variables of a LET. */
        private int detail;
        private Node target;
        private boolean functional;
        /** Below a SPLIT: the constructor, and the first of the variables that are its parts. */
        private int clause;
        private int clauseVariable;
        /** Of a LET: the first of G's new variables, which follow each other. */
        private int letVariable;

        Node(int number) {
            this.number = number;
        }

        void open(Node aboveIt, Row row, int from, int to) {
            term.clear();
            term.addRange(row, from, to);
            residual.clear();
            above = aboveIt;
            beside = null;
            dropBelow();
            clause = NONE;
            clauseVariable = NONE;
            letVariable = NONE;
            become(OPEN, NONE);
        }

        void become(int newKind, int newDetail) {
            kind = newKind;
            detail = newDetail;
            target = null;
            functional = false;
        }

        void fold(Node onto) {
            become(FOLD, onto.number);
            target = onto;
        }

        void put(Node below) {
            if (lastBelow == null) {
                firstBelow = below;
            } else {
                lastBelow.beside = below;
            }
            lastBelow = below;
        }

        void dropBelow() {
            firstBelow = null;
            lastBelow = null;
        }

        boolean isBelow(Node other) {
            for (Node up = above; up != null; up = up.above) {
                if (up == other) {
                    return true;
                }
            }
            return false;
        }
    }

    /** The nodes in the order of making, and the limits of what a drive may make. */
    private static final class Tree {
        private final Node[] nodes = new Node[NODE_LIMIT];
        private int count = 0;
        private int nextVariable = INPUTS;
        private boolean tooGreat = false;

        Tree() {
            for (int n = 0; n < NODE_LIMIT; n++) {
                nodes[n] = new Node(n);
            }
        }

        void clear() {
            count = 0;
            nextVariable = INPUTS;
            tooGreat = false;
        }

        int count() {
            return count;
        }

        boolean isTooGreat() {
            return tooGreat;
        }

        Node get(int n) {
            return n >= 0 && n < count && n < NODE_LIMIT ? nodes[n] : null;
        }

        int newVariable() {
            if (nextVariable >= VARIABLES) {
                tooGreat = true;
                return NONE;
            }
            nextVariable++;
            return nextVariable - 1;
        }

        /** A new open node with the row's signs from one place to another; null if too great. */
        Node add(Node above, Row row, int from, int to) {
            if (count < 0 || count >= NODE_LIMIT || to - from > TERM_LIMIT || row.isTooLong()) {
                tooGreat = true;
                return null;
            }
            Node node = nodes[count];
            count++;
            node.open(above, row, from, to);
            if (above != null) {
                above.put(node);
            }
            return node;
        }

        void removeBelow(Node top) {
            for (int n = top.number + 1; n < count; n++) {
                Node node = get(n);
                if (node != null && node.isBelow(top)) {
                    node.become(GONE, NONE);
                }
            }
            top.dropBelow();
        }
    }

    /** Makes G, and knows where the terms begin that its new variables stand for. */
    private static final class Generaliser {
        private final Signs signs;
        private final Tree tree;
        private final Row general = new Row(TERM_LIMIT);
        private final int[] upperStarts = new int[TERM_LIMIT];
        private final int[] lowerStarts = new int[TERM_LIMIT];
        private int count = 0;
        private int firstVariable = NONE;

        Generaliser(Signs signs, Tree tree) {
            this.signs = signs;
            this.tree = tree;
        }

        void generalise(Node lower, Node rival) {
            general.clear();
            count = 0;
            if (rival.term.at(0) != lower.term.at(0)) {
                takeApart(lower.term);
                let(lower, lowerStarts);
                return;
            }
            takeCommon(rival.term, lower.term);
            if (general.isRenamingOf(rival.term)) {
                let(lower, lowerStarts);
            } else {
                tree.removeBelow(rival);
                let(rival, upperStarts);
            }
        }

        private void takeApart(Row term) {
            general.add(term.at(0));
            int place = 1;
            for (int k = signs.partsOf(term.at(0)); k > 0; k--) {
                general.add(newVariable(place, place));
                place = signs.behind(term, place);
            }
        }

        private void takeCommon(Row upper, Row lower) {
            int i = 0;
            int j = 0;
            for (int turn = 0; turn < TERM_LIMIT && i < upper.length(); turn++) {
                if (upper.at(i) == lower.at(j)) {
                    general.add(upper.at(i));
                    i++;
                    j++;
                } else {
                    int upperEnd = signs.behind(upper, i);
                    int lowerEnd = signs.behind(lower, j);
                    int k = metBefore(upper, i, upperEnd, lower, j, lowerEnd);
                    general.add(k == NONE ? newVariable(i, j) : firstVariable + k);
                    i = upperEnd;
                    j = lowerEnd;
                }
            }
        }

        /** Which new variable stands for these two terms, NONE if none does. */
        private int metBefore(Row upper, int i, int upperEnd, Row lower, int j, int lowerEnd) {
            for (int k = 0; k < count && k < TERM_LIMIT; k++) {
                // A term that begins like another one, sign by sign, ends like it, too.
                if (upper.repeats(i, upperEnd, upperStarts[k])
                    && lower.repeats(j, lowerEnd, lowerStarts[k])) {
                    return k;
                }
            }
            return NONE;
        }

        private int newVariable(int upperStart, int lowerStart) {
            int v = tree.newVariable();
            if (count == 0) {
                firstVariable = v;
            }
            if (count >= 0 && count < TERM_LIMIT) {
                upperStarts[count] = upperStart;
                lowerStarts[count] = lowerStart;
                count++;
            }
            return v;
        }

        private void let(Node node, int[] starts) {
            node.become(LET, count);
            node.letVariable = firstVariable;
            tree.add(node, general, 0, general.length());
            for (int k = 0; k < count && k < starts.length; k++) {
                tree.add(node, node.term, starts[k], signs.behind(node.term, starts[k]));
            }
        }
    }

    /** Grows the tree, one open node after the other. */
    private static final class Driver {
        private final Signs signs;
        private final Program source;
        private final Tree tree;
        private final Substitution change;
        private final Generaliser generaliser;
        private final Row unfolded = new Row(TERM_LIMIT);
        private final Row replaced = new Row(SPLIT_LIMIT);
        private final Row pattern = new Row(3);

        Driver(Signs signs, Program source, Tree tree, Substitution change) {
            this.signs = signs;
            this.source = source;
            this.tree = tree;
            this.change = change;
            generaliser = new Generaliser(signs, tree);
        }

        void begin(Row goal) {
            tree.clear();
            tree.add(null, goal, 0, goal.length());
        }

        void settle(int n) {
            Node node = tree.get(n);
            if (node == null || node.kind != OPEN || tree.isTooGreat()) {
                return;
            }
            Row term = node.term;
            if (!isCall(term.at(0))) {
                settleWithoutCall(node);
                return;
            }
            int at = signs.nextCall(term);
            boolean steps = source.unfolds(term, at);
            boolean splits = signs.isCased(term.at(at)) && isVariable(term.at(at + 1));
            if (!steps && !splits) {
                node.become(STUCK, NONE);
                return;
            }
            Node like = renamedRival(node, steps);
            Node smaller = like == null ? embeddedRival(node, steps) : null;
            if (like != null) {
                node.fold(like);
            } else if (smaller != null) {
                generaliser.generalise(node, smaller);
            } else if (steps) {
                step(node, at);
            } else {
                split(node, at);
            }
        }

        private void settleWithoutCall(Node node) {
            Row term = node.term;
            int count = signs.partsOf(term.at(0));
            if (count == 0) {
                node.become(LEAF, NONE);
                return;
            }
            node.become(BUILD, term.at(0) - CONSTRUCTOR);
            int place = 1;
            for (int k = 0; k < count; k++) {
                int end = signs.behind(term, place);
                tree.add(node, term, place, end);
                place = end;
            }
        }

        private static Node renamedRival(Node node, boolean steps) {
            for (Node up = nextRival(node, steps); up != null; up = nextRival(up, steps)) {
                if (node.term.isRenamingOf(up.term)) {
                    return up;
                }
            }
            return null;
        }

        private Node embeddedRival(Node node, boolean steps) {
            for (Node up = nextRival(node, steps); up != null; up = nextRival(up, steps)) {
                if (signs.isEmbedded(up.term, node.term)) {
                    return up;
                }
            }
            return null;
        }

        private static Node nextRival(Node node, boolean steps) {
            for (Node up = node.above; up != null; up = up.above) {
                if (up.kind == (steps ? STEP : SPLIT)) {
                    return up;
                }
                if (steps && up.kind != LET) {
                    return null;
                }
            }
            return null;
        }

        private void step(Node node, int at) {
            node.become(STEP, NONE);
            source.unfold(node.term, at, unfolded);
            tree.add(node, unfolded, 0, unfolded.length());
        }

        private void split(Node node, int at) {
            int v = node.term.at(at + 1);
            node.become(SPLIT, v);
            for (int c = 0; c < CONSTRUCTORS && !tree.isTooGreat(); c++) {
                if (source.bodyOf(node.term.at(at), c) != null) {
                    addClause(node, at, v, c);
                }
            }
        }

        private void addClause(Node node, int at, int v, int c) {
            int first = NONE;
            pattern.clear();
            pattern.add(CONSTRUCTOR + c);
            for (int k = 0; k < partsOfConstructor(c); k++) {
                pattern.add(tree.newVariable());
                first = pattern.at(1);
            }
            change.begin();
            change.bind(v, pattern, 0, pattern.length());
            replaced.clear();
            change.apply(node.term, replaced);
            // Only functions stand before v, so the next call has kept its place.
            source.unfold(replaced, at, unfolded);
            Node below = tree.add(node, unfolded, 0, unfolded.length());
            if (below != null) {
                below.clause = c;
                below.clauseVariable = first;
            }
        }
    }

    /** The functions that are read off the tree. */
    private static final class ResidualProgram extends Program {
        private final Tree tree;

        ResidualProgram(Signs signs, Substitution change, Tree tree) {
            super(signs, change);
            this.tree = tree;
        }

        /** The row that a run begins with, before the inputs; null if there is no tree. */
        Row start() {
            Node top = tree.get(0);
            return top == null ? null : top.residual;
        }

        /** Writes all residual terms; false if one of them is too long. */
        boolean write() {
            markFunctions();
            // A FOLD needs its target's parameters, all others only what is below them.
            for (int n = 0; n < tree.count(); n++) {
                Node node = tree.get(n);
                if (node != null && node.functional) {
                    writeOwnCall(node);
                }
            }
            for (int n = tree.count() - 1; n >= 0; n--) {
                Node node = tree.get(n);
                if (node != null && !node.functional) {
                    writeInline(node);
                }
                if (node != null && node.residual.isTooLong()) {
                    return false;
                }
            }
            return true;
        }

        Row bodyOf(int sign, int c) {
            Node node = tree.get(sign - RESIDUAL);
            if (node == null || !node.functional) {
                return null;
            }
            Node below = c == NONE ? node.firstBelow : clauseBelow(node, c);
            return below == null ? null : below.residual;
        }

        int variableOf(int sign, int c, int k) {
            Node node = tree.get(sign - RESIDUAL);
            if (node == null) {
                return NONE;
            }
            // The residual term of a function's node is its sign and then its parameters.
            if (c == NONE) {
                return node.residual.at(1 + k);
            }
            int own = partsOfConstructor(c);
            if (k >= own) {
                return node.residual.at(2 + k - own);
            }
            Node below = clauseBelow(node, c);
            return below == null ? NONE : below.clauseVariable + k;
        }

        private static Node clauseBelow(Node node, int c) {
            for (Node below = node.firstBelow; below != null; below = below.beside) {
                if (below.clause == c) {
                    return below;
                }
            }
            return null;
        }

        private void markFunctions() {
            for (int n = 0; n < tree.count(); n++) {
                Node node = tree.get(n);
                if (node != null && node.kind == SPLIT) {
                    node.functional = true;
                } else if (node != null && node.target != null) {
                    node.target.functional = true;
                }
            }
        }

        private void writeOwnCall(Node node) {
            Row call = node.residual;
            call.add(RESIDUAL + node.number);
            if (node.kind == SPLIT) {
                call.add(node.detail);
            }
            for (int i = 0; i < node.term.length(); i++) {
                int sign = node.term.at(i);
                if (isVariable(sign) && call.indexOf(sign) == NONE) {
                    call.add(sign);
                }
            }
            signs.shape(RESIDUAL + node.number, call.length() - 1, node.kind == SPLIT);
        }

        private void writeInline(Node node) {
            switch (node.kind) {
                case LEAF:
                    node.residual.copy(node.term);
                    break;
                case STUCK:
                    node.residual.add(STUCK_SIGN);
                    break;
                case BUILD:
                    node.residual.add(node.term.at(0));
                    addAllBelow(node);
                    break;
                case STEP:
                    addAllBelow(node);
                    break;
                case FOLD:
                    writeFold(node);
                    break;
                case LET:
                    writeLet(node);
                    break;
                default:
                    // A node that is gone has none.
                    break;
            }
        }

        private static void addAllBelow(Node node) {
            for (Node below = node.firstBelow; below != null; below = below.beside) {
                node.residual.addRange(below.residual, 0, below.residual.length());
            }
        }

        private static void writeFold(Node node) {
            Node target = node.target;
            if (target == null) {
                return;
            }
            node.residual.add(RESIDUAL + target.number);
            for (int k = 1; k < target.residual.length(); k++) {
                int place = target.term.indexOf(target.residual.at(k));
                node.residual.add(node.term.at(place));
            }
        }

        private void writeLet(Node node) {
            Node first = node.firstBelow;
            if (first == null) {
                return;
            }
            change.begin();
            int v = node.letVariable;
            for (Node below = first.beside; below != null; below = below.beside) {
                change.bind(v, below.residual, 0, below.residual.length());
                v++;
            }
            change.apply(first.residual, node.residual);
        }
    }

    /** Runs a program, and keeps how the latest run went. */
    private static final class Runner {
        private final Signs signs;
        private final Substitution change;
        private Row row = new Row(ROW_LIMIT);
        private Row spare = new Row(ROW_LIMIT);
        private int ended = NONE;
        private int made = 0;

        Runner(Signs signs, Substitution change) {
            this.signs = signs;
            this.change = change;
        }

        void clear() {
            ended = NONE;
            made = 0;
        }

        void begin(Row start, Row[] inputs) {
            change.begin();
            for (int v = 0; v < inputs.length; v++) {
                if (inputs[v] != null) {
                    change.bind(v, inputs[v], 0, inputs[v].length());
                }
            }
            row.clear();
            change.apply(start, row);
        }

        int go(Program program, int fuel) {
            for (made = 0; made <= fuel; made++) {
                int at = signs.nextCall(row);
                ended = judge(program, at, fuel);
                if (ended != GOES_ON) {
                    return ended;
                }
                program.unfold(row, at, spare);
                Row old = row;
                row = spare;
                spare = old;
            }
            return ended;
        }

        int stepsMade() {
            return made;
        }

        int constructorAt(int i) {
            if (ended != FINISHED) {
                return NONE;
            }
            if (i == NONE) {
                return row.length();
            }
            return isConstructor(row.at(i)) ? row.at(i) - CONSTRUCTOR : NONE;
        }

        private int judge(Program program, int at, int fuel) {
            if (row.isTooLong()) {
                return ROW_TOO_LONG;
            }
            if (at == NONE) {
                return FINISHED;
            }
            if (!program.unfolds(row, at)) {
                return UNFOLDS_NOT;
            }
            return made >= fuel ? OUT_OF_FUEL : GOES_ON;
        }
    }
}
