import java.io.IOException;
import java.nio.file.Files;
import java.nio.file.Path;
import java.util.ArrayList;
import java.util.LinkedHashMap;
import java.util.List;
import java.util.Map;

/** The document's sections, and the sentences that they are made of. */
final class Document {
    static final String WHAT = "What it is";
    static final String TERMS = "Terms";
    static final String NEW = "Promise 1: A new object";
    static final String TYPE = "Promise 2: type";
    static final String WIPE = "Promise 3: wipe";
    static final String FORGET = "Promise 4: forget";
    static final String FUNCTION = "Promise 5: function";
    static final String BODY = "Promise 6: body";
    static final String GOAL = "Promise 7: goal";
    static final String INPUT = "Promise 8: input";
    static final String DRIVE = "Promise 9: drive";
    static final String NODE = "Promise 10: node";
    static final String TERM = "Promise 11: term";
    static final String RESIDUAL = "Promise 12: residual";
    static final String RUN = "Promise 13: run";
    static final String RESULT = "Promise 14: result";
    static final String STEPS = "Promise 15: steps";

    /** Those in which something is promised. */
    static final List<String> SECTIONS = List.of(WHAT, TERMS, NEW, TYPE, WIPE, FORGET, FUNCTION, BODY,
        GOAL, INPUT, DRIVE, NODE, TERM, RESIDUAL, RUN, RESULT, STEPS);

    private final Map<String, String> sections = new LinkedHashMap<>();

    Document(Path path) throws IOException {
        String[] parts = ("\n" + Files.readString(path)).split("\n## ");
        for (int k = 1; k < parts.length; k++) {
            int end = (parts[k] + "\n").indexOf('\n');
            String text = parts[k].substring(Math.min(end, parts[k].length()));
            sections.put(parts[k].substring(0, end).trim(), plain(text));
        }
    }

    /** One line, without the marks of the form and without the head of a promise. */
    private static String plain(String text) {
        return text.replaceAll("```\\w*", " ").replaceAll("\\s+", " ").trim()
            .replaceFirst("^`[^`]*`: ", "");
    }

    boolean has(String section, String words) {
        return sections.getOrDefault(section, "").contains(words);
    }

    /** What stands in a section between full stops and semicolons. */
    List<String> sentences(String section) {
        List<String> all = new ArrayList<>();
        for (String one : sections.getOrDefault(section, "").split("(?<![.])[.;](?=\\s|$)")) {
            if (!one.isBlank()) {
                all.add(one.trim());
            }
        }
        return all;
    }
}
