import java.util.ArrayList;
import java.util.HashMap;
import java.util.LinkedHashMap;
import java.util.LinkedHashSet;
import java.util.List;
import java.util.Map;

/**
 * The document once more, written with trees, maps and recursion where SuperDriver has rows and
 * loops, so that a slip in one of the two is not likely to stand in the other.
 */
final class Oracle {
    static final int NONE = -1;
    private static final int[] ARITY = {0, 1, 2, 0, 1, 2};

    record Term(int sign, List<Term> parts) {
        int size() {
            int all = 1;
            for (Term part : parts) {
                all += part.size();
            }
            return all;
        }

        void flatten(List<Integer> out) {
            out.add(sign);
            for (Term part : parts) {
                part.flatten(out);
            }
        }

        List<Integer> row() {
            List<Integer> out = new ArrayList<>();
            flatten(out);
            return out;
        }

        boolean isVariable() {
            return sign < 100;
        }

        boolean isConstructor() {
            return sign >= 100 && sign < 200;
        }

        boolean isCall() {
            return sign >= 200;
        }
    }

    record Pair(Term one, Term other) { }

    record Clause(List<Integer> variables, Term body) { }

    /** Functions by sign: cased ones have clauses 0 .. 5, plain ones have NONE. */
    interface Program {
        boolean cased(int sign);

        Clause clause(int sign, int c);
    }

    private static final class TooGreat extends RuntimeException {
        private static final long serialVersionUID = 1;
    }

    private static final class Function {
        int parts;
        boolean cased;
        Map<Integer, Term> bodies = new HashMap<>();
    }

    private static final class Node {
        int number;
        int kind = 8;
        Node above;
        List<Node> below = new ArrayList<>();
        Term term;
        int detail = NONE;
        Node target;
        int clause = NONE;
        List<Integer> clauseVariables = List.of();
        List<Integer> letVariables = List.of();
        boolean functional;
        Term residual;
    }

    private String text = "";
    private final Map<Integer, Function> functions = new HashMap<>();
    private Term goal;
    private final Map<Integer, Term> inputs = new HashMap<>();
    private List<Node> tree;
    private int nextVariable;
    private int steps;
    private List<Integer> result;

    boolean type(long part) {
        StringBuilder more = new StringBuilder();
        for (int i = 7; i >= 0; i--) {
            char letter = (char) (part >> (8 * i) & 0xff);
            if (letter != 0) {
                more.append(letter);
            }
        }
        if (!more.toString().matches("[a-hK-P0-7]*") || text.length() + more.length() > 24) {
            return false;
        }
        text += more;
        return true;
    }

    void wipe() {
        text = "";
    }

    void forget() {
        text = "";
        functions.clear();
        goal = null;
        inputs.clear();
        tree = null;
        steps = 0;
        result = null;
    }

    void function(int f, int parts, boolean cased) {
        if (f < 0 || f > 7 || parts < 1 || parts > 3) {
            throw new IllegalArgumentException();
        }
        if (functions.containsKey(f)) {
            throw new IllegalStateException();
        }
        Function made = new Function();
        made.parts = parts;
        made.cased = cased;
        functions.put(f, made);
        tree = null;
    }

    void body(int f, int c) {
        Function function = functions.get(f);
        if (function == null) {
            throw new IllegalStateException();
        }
        if (function.cased ? c < 0 || c > 5 : c != NONE) {
            throw new IllegalArgumentException();
        }
        Term term = parse();
        int allowed = function.cased ? ARITY[c] + function.parts - 1 : function.parts;
        if (term == null || variables(term).stream().anyMatch(v -> v >= allowed)) {
            throw new IllegalArgumentException();
        }
        function.bodies.put(c, term);
        text = "";
        tree = null;
    }

    void goal() {
        Term term = parse();
        if (term == null) {
            throw new IllegalArgumentException();
        }
        goal = term;
        text = "";
        tree = null;
    }

    boolean input(int v) {
        Term term = parse();
        if (v < 0 || v > 7 || term == null || !term.row().stream().allMatch(s -> s / 100 == 1)) {
            return false;
        }
        inputs.put(v, term);
        text = "";
        return true;
    }

    int drive() {
        if (goal == null) {
            throw new IllegalStateException();
        }
        tree = new ArrayList<>();
        nextVariable = 8;
        try {
            add(null, goal);
            while (true) {
                Node open = null;
                for (Node node : tree) {
                    if (node.kind == 8 && open == null) {
                        open = node;
                    }
                }
                if (open == null) {
                    break;
                }
                settle(open);
            }
            writeResiduals();
        } catch (TooGreat e) {
            tree = null;
        }
        if (tree == null) {
            throw new UnsupportedOperationException();
        }
        return tree.size();
    }

    int node(int n, int w) {
        if (tree == null || n < 0 || n >= tree.size()) {
            return NONE;
        }
        Node node = tree.get(n);
        return switch (w) {
            case 0 -> node.kind;
            case 1 -> node.above == null ? NONE : node.above.number;
            case 2 -> node.kind == 0 ? NONE : node.detail;
            case 3 -> node.kind != 0 && node.functional ? 1 : 0;
            default -> NONE;
        };
    }

    int term(int n, int i) {
        return tree == null || n < 0 || n >= tree.size() ? NONE : at(tree.get(n).term.row(), i);
    }

    int residual(int n, int i) {
        if (tree == null || n < 0 || n >= tree.size() || tree.get(n).kind == 0) {
            return NONE;
        }
        return at(tree.get(n).residual.row(), i);
    }

    int run(boolean driven, int fuel) {
        if (fuel < 1 || fuel > 500) {
            throw new IllegalArgumentException();
        }
        if (goal == null || driven && tree == null) {
            throw new IllegalStateException();
        }
        if (!inputs.keySet().containsAll(variables(goal))) {
            throw new IllegalStateException();
        }
        Program program = driven ? residualProgram() : sourceProgram();
        Term row = replace(driven ? tree.get(0).residual : goal, inputs);
        steps = 0;
        result = null;
        while (true) {
            if (row.size() > 200) {
                return 3;
            }
            Term call = nextCall(row, program);
            if (call == null) {
                result = new ArrayList<>();
                for (int sign : row.row()) {
                    result.add(sign - 100);
                }
                return 0;
            }
            if (unfolded(call, program) == null) {
                return 1;
            }
            if (steps == fuel) {
                return 2;
            }
            row = unfoldNext(row, program);
            steps++;
        }
    }

    int result(int i) {
        return result == null ? NONE : at(result, i);
    }

    int steps() {
        return steps;
    }

    private static int at(List<Integer> row, int i) {
        if (i == NONE) {
            return row.size();
        }
        return i < 0 || i >= row.size() ? NONE : row.get(i);
    }

    // ---- terms ----

    private Term parse() {
        int[] place = {0};
        Term term = parse(place);
        return term == null || place[0] != text.length() ? null : term;
    }

    private Term parse(int[] place) {
        if (place[0] >= text.length()) {
            return null;
        }
        char letter = text.charAt(place[0]++);
        int sign;
        int count = 0;
        if (letter >= 'a') {
            sign = letter - 'a';
        } else if (letter >= 'K') {
            sign = 100 + letter - 'K';
            count = ARITY[letter - 'K'];
        } else {
            sign = 200 + letter - '0';
            Function function = functions.get(letter - '0');
            if (function == null) {
                return null;
            }
            count = function.parts;
        }
        List<Term> parts = new ArrayList<>();
        for (int k = 0; k < count; k++) {
            Term part = parse(place);
            if (part == null) {
                return null;
            }
            parts.add(part);
        }
        return new Term(sign, parts);
    }

    private static Term variable(int v) {
        return new Term(v, List.of());
    }

    private static LinkedHashSet<Integer> variables(Term term) {
        LinkedHashSet<Integer> found = new LinkedHashSet<>();
        for (int sign : term.row()) {
            if (sign < 100) {
                found.add(sign);
            }
        }
        return found;
    }

    private static Term replace(Term term, Map<Integer, Term> by) {
        if (term.isVariable()) {
            return by.getOrDefault(term.sign, term);
        }
        List<Term> parts = new ArrayList<>();
        for (Term part : term.parts) {
            parts.add(replace(part, by));
        }
        return new Term(term.sign, parts);
    }

    private static Term nextCall(Term term, Program program) {
        if (term.isCall()) {
            boolean waits = program.cased(term.sign) && term.parts.get(0).isCall();
            return waits ? nextCall(term.parts.get(0), program) : term;
        }
        for (Term part : term.parts) {
            Term found = nextCall(part, program);
            if (found != null) {
                return found;
            }
        }
        return null;
    }

    private static Term unfoldNext(Term term, Program program) {
        boolean waits = term.isCall() && program.cased(term.sign) && term.parts.get(0).isCall();
        if (term.isCall() && !waits) {
            return unfolded(term, program);
        }
        List<Term> parts = new ArrayList<>(term.parts);
        for (int k = 0; k < parts.size(); k++) {
            if (nextCall(parts.get(k), program) != null) {
                parts.set(k, unfoldNext(parts.get(k), program));
                break;
            }
        }
        return new Term(term.sign, parts);
    }

    private static Term unfolded(Term call, Program program) {
        List<Term> values = new ArrayList<>();
        Clause clause;
        if (program.cased(call.sign)) {
            Term first = call.parts.get(0);
            if (!first.isConstructor()) {
                return null;
            }
            clause = program.clause(call.sign, first.sign - 100);
            values.addAll(first.parts);
            values.addAll(call.parts.subList(1, call.parts.size()));
        } else {
            clause = program.clause(call.sign, NONE);
            values.addAll(call.parts);
        }
        if (clause == null) {
            return null;
        }
        Map<Integer, Term> by = new HashMap<>();
        for (int k = 0; k < values.size(); k++) {
            by.put(clause.variables.get(k), values.get(k));
        }
        return replace(clause.body, by);
    }

    private static boolean renaming(Term one, Term other) {
        return renaming(one, other, new HashMap<>(), new HashMap<>());
    }

    private static boolean renaming(
            Term one, Term other, Map<Integer, Integer> there, Map<Integer, Integer> back) {
        if (one.isVariable() && other.isVariable()) {
            there.putIfAbsent(one.sign, other.sign);
            back.putIfAbsent(other.sign, one.sign);
            return there.get(one.sign) == other.sign && back.get(other.sign) == one.sign;
        }
        if (one.sign != other.sign) {
            return false;
        }
        for (int k = 0; k < one.parts.size(); k++) {
            if (!renaming(one.parts.get(k), other.parts.get(k), there, back)) {
                return false;
            }
        }
        return true;
    }

    private static boolean embedded(Term s, Term t, Map<Pair, Boolean> known) {
        Pair pair = new Pair(s, t);
        Boolean before = known.get(pair);
        if (before != null) {
            return before;
        }
        boolean is = s.isVariable() && t.isVariable();
        if (!is && !s.isVariable() && s.sign == t.sign) {
            is = true;
            for (int k = 0; k < s.parts.size(); k++) {
                is = is && embedded(s.parts.get(k), t.parts.get(k), known);
            }
        }
        for (Term part : t.parts) {
            is = is || embedded(s, part, known);
        }
        known.put(pair, is);
        return is;
    }

    // ---- programs ----

    private Program sourceProgram() {
        return new Program() {
            @Override
            public boolean cased(int sign) {
                return functions.containsKey(sign - 200) && functions.get(sign - 200).cased;
            }

            @Override
            public Clause clause(int sign, int c) {
                Function function = functions.get(sign - 200);
                Term body = function == null ? null : function.bodies.get(c);
                return body == null ? null : new Clause(List.of(0, 1, 2, 3, 4, 5), body);
            }
        };
    }

    private Program residualProgram() {
        return new Program() {
            @Override
            public boolean cased(int sign) {
                return sign < 400 && tree.get(sign - 300).kind == 4;
            }

            @Override
            public Clause clause(int sign, int c) {
                if (sign == 400) {
                    return null;
                }
                Node node = tree.get(sign - 300);
                List<Integer> parameters = parameters(node);
                if (c == NONE) {
                    return new Clause(parameters, node.below.get(0).residual);
                }
                for (Node below : node.below) {
                    if (below.clause == c) {
                        List<Integer> all = new ArrayList<>(below.clauseVariables);
                        all.addAll(parameters.subList(1, parameters.size()));
                        return new Clause(all, below.residual);
                    }
                }
                return null;
            }
        };
    }

    // ---- the drive ----

    private int newVariable() {
        if (nextVariable > 99) {
            throw new TooGreat();
        }
        return nextVariable++;
    }

    private Node add(Node above, Term term) {
        if (tree.size() > 47 || term.size() > 40) {
            throw new TooGreat();
        }
        Node node = new Node();
        node.number = tree.size();
        node.above = above;
        node.term = term;
        tree.add(node);
        if (above != null) {
            above.below.add(node);
        }
        return node;
    }

    private void settle(Node node) {
        Term term = node.term;
        if (!term.isCall()) {
            node.kind = term.parts.isEmpty() ? 1 : 2;
            node.detail = term.parts.isEmpty() ? NONE : term.sign - 100;
            for (Term part : term.parts) {
                add(node, part);
            }
            return;
        }
        Program program = sourceProgram();
        Term call = nextCall(term, program);
        boolean unfolds = unfolded(call, program) != null;
        if (!unfolds && !(program.cased(call.sign) && call.parts.get(0).isVariable())) {
            node.kind = 5;
            return;
        }
        List<Node> rivals = rivals(node, unfolds);
        for (Node rival : rivals) {
            if (renaming(rival.term, term)) {
                node.kind = 6;
                node.target = rival;
                node.detail = rival.number;
                return;
            }
        }
        for (Node rival : rivals) {
            if (embedded(rival.term, term, new HashMap<>())) {
                generalise(node, rival);
                return;
            }
        }
        if (unfolds) {
            node.kind = 3;
            add(node, unfoldNext(term, program));
        } else {
            split(node, call, program);
        }
    }

    private static List<Node> rivals(Node node, boolean unfolds) {
        List<Node> found = new ArrayList<>();
        Node up = node.above;
        while (up != null && (!unfolds || up.kind == 3 || up.kind == 7)) {
            if (up.kind == (unfolds ? 3 : 4)) {
                found.add(up);
            }
            up = up.above;
        }
        return found;
    }

    private void split(Node node, Term call, Program program) {
        node.kind = 4;
        node.detail = call.parts.get(0).sign;
        for (int c = 0; c < 6; c++) {
            if (program.clause(call.sign, c) == null) {
                continue;
            }
            List<Integer> made = new ArrayList<>();
            List<Term> parts = new ArrayList<>();
            for (int k = 0; k < ARITY[c]; k++) {
                made.add(newVariable());
                parts.add(variable(made.get(k)));
            }
            Term opened = replace(node.term, Map.of(node.detail, new Term(100 + c, parts)));
            Node below = add(node, unfoldNext(opened, program));
            below.clause = c;
            below.clauseVariables = made;
        }
    }

    private void generalise(Node node, Node rival) {
        LinkedHashMap<Integer, Term> upper = new LinkedHashMap<>();
        LinkedHashMap<Integer, Term> lower = new LinkedHashMap<>();
        if (node.term.sign != rival.term.sign) {
            List<Term> parts = new ArrayList<>();
            for (Term part : node.term.parts) {
                int v = newVariable();
                lower.put(v, part);
                parts.add(variable(v));
            }
            let(node, new Term(node.term.sign, parts), lower);
            return;
        }
        Term general = common(rival.term, node.term, new HashMap<>(), upper, lower);
        if (renaming(general, rival.term)) {
            let(node, general, lower);
        } else {
            remove(rival);
            let(rival, general, upper);
        }
    }

    private Term common(
            Term one, Term other, Map<Pair, Integer> met,
            Map<Integer, Term> upper, Map<Integer, Term> lower) {
        if (one.sign == other.sign) {
            List<Term> parts = new ArrayList<>();
            for (int k = 0; k < one.parts.size(); k++) {
                parts.add(common(one.parts.get(k), other.parts.get(k), met, upper, lower));
            }
            return new Term(one.sign, parts);
        }
        Pair pair = new Pair(one, other);
        if (!met.containsKey(pair)) {
            int v = newVariable();
            met.put(pair, v);
            upper.put(v, one);
            lower.put(v, other);
        }
        return variable(met.get(pair));
    }

    private void remove(Node top) {
        for (Node below : top.below) {
            remove(below);
            below.kind = 0;
            below.target = null;
        }
        top.below = new ArrayList<>();
    }

    private void let(Node node, Term general, Map<Integer, Term> stands) {
        node.kind = 7;
        node.detail = stands.size();
        node.letVariables = new ArrayList<>(stands.keySet());
        add(node, general);
        for (int v : node.letVariables) {
            add(node, stands.get(v));
        }
    }

    // ---- the residual program ----

    private static List<Integer> parameters(Node node) {
        LinkedHashSet<Integer> all = new LinkedHashSet<>();
        if (node.kind == 4) {
            all.add(node.detail);
        }
        all.addAll(variables(node.term));
        return new ArrayList<>(all);
    }

    private void writeResiduals() {
        for (Node node : tree) {
            node.functional = node.kind == 4;
        }
        for (Node node : tree) {
            if (node.kind == 6) {
                node.target.functional = true;
            }
        }
        for (Node node : tree) {
            if (node.kind != 0) {
                node.residual = residualOf(node);
                if (node.residual.size() > 100) {
                    throw new TooGreat();
                }
            }
        }
    }

    private static Term call(Node node, List<Integer> values) {
        List<Term> parts = new ArrayList<>();
        for (int v : values) {
            parts.add(variable(v));
        }
        return new Term(300 + node.number, parts);
    }

    private Term residualOf(Node node) {
        if (node.functional) {
            return call(node, parameters(node));
        }
        switch (node.kind) {
            case 1:
                return node.term;
            case 2: {
                List<Term> parts = new ArrayList<>();
                for (Node below : node.below) {
                    parts.add(residualOf(below));
                }
                return new Term(node.term.sign, parts);
            }
            case 3:
                return residualOf(node.below.get(0));
            case 5:
                return new Term(400, List.of());
            case 6: {
                Map<Integer, Integer> there = new HashMap<>();
                renaming(node.target.term, node.term, there, new HashMap<>());
                List<Integer> values = new ArrayList<>();
                for (int v : parameters(node.target)) {
                    values.add(there.get(v));
                }
                return call(node.target, values);
            }
            default: {
                Map<Integer, Term> by = new HashMap<>();
                for (int k = 0; k < node.letVariables.size(); k++) {
                    by.put(node.letVariables.get(k), residualOf(node.below.get(k + 1)));
                }
                return replace(residualOf(node.below.get(0)), by);
            }
        }
    }
}
