import java.util.ArrayDeque;
import java.util.ArrayList;
import java.util.Deque;
import java.util.List;

/** A Java file without its comments and without what stands in its texts, and its methods. */
final class SourceText {
    /** A method's head, and the lines from its first brace to its last one. */
    record Body(String head, int lines) { }

    private record Brace(String kind, String head, int line) { }

    private final String code;
    private final List<Body> methods = new ArrayList<>();
    private int classes = 0;

    SourceText(String source) {
        code = source
            .replaceAll("(?s)/\\*.*?\\*/|\"(?:[^\"\\\\\n]|\\\\.)*\"|'(?:[^'\\\\]|\\\\.)+'|//[^\n]*",
                "\u0000$0\u0000")
            .replaceAll("(?s)\u0000\"[^\u0000]*\u0000", "\"\"")
            .replaceAll("(?s)\u0000'[^\u0000]*\u0000", "' '")
            .replaceAll("(?s)\u0000[^\u0000]*\u0000", " ");
        findBodies();
    }

    String code() {
        return code;
    }

    List<String> lines() {
        return List.of(code.split("\n"));
    }

    List<Body> methods() {
        return methods;
    }

    int classes() {
        return classes;
    }

    private void findBodies() {
        Deque<Brace> open = new ArrayDeque<>();
        StringBuilder head = new StringBuilder();
        int line = 1;
        for (char c : code.toCharArray()) {
            line += c == '\n' ? 1 : 0;
            if (c == '{') {
                open.push(new Brace(kind(head.toString(), open.peek()), head.toString().trim(), line));
            } else if (c == '}' && !open.isEmpty()) {
                end(open.pop(), line);
            }
            if (c == '{' || c == '}' || c == ';') {
                head.setLength(0);
            } else {
                head.append(c);
            }
        }
    }

    private static String kind(String head, Brace around) {
        if (head.matches("(?s).*\\b(class|interface|enum|record)\\s+\\w+.*")) {
            return "class";
        }
        boolean inClass = around != null && around.kind().equals("class");
        return inClass && head.contains("(") ? "method" : "other";
    }

    private void end(Brace brace, int line) {
        if (brace.kind().equals("class")) {
            classes++;
        } else if (brace.kind().equals("method")) {
            methods.add(new Body(brace.head(), line - brace.line() + 1));
        }
    }
}
