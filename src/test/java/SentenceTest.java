import java.nio.file.Files;
import java.nio.file.Path;
import java.util.List;

/**
 * Each sentence of the document has a test that says which one it is for. The words that a test
 * says must stand in the document, and no sentence of the document may be without a test.
 */
public final class SentenceTest {
    /** These say nothing that a call could break. */
    private static final List<String> WITHOUT_TEST = List.of(
        "what later calls answer is free", "THE RESIDUAL PROGRAM");

    private static final Check check = new Check("SentenceTest");

    public static void main(String[] args) throws Exception {
        new TextCases(check).all();
        new ProgramCases(check).all();
        new TermCases(check).all();
        new DriveCases(check).all();
        new GeneralCases(check).all();
        new ResidualCases(check).all();
        new LimitCases(check).all();
        new NodeCases(check).all();
        new RunCases(check).all();
        new RefusedCases(check).all();
        if (args.length > 1 && Files.isRegularFile(Path.of(args[1]))) {
            List<Check.Words> quoted = List.copyOf(check.quoted());
            check.by("The document", Path.of(args[1]).getFileName().toString());
            compare(new Document(Path.of(args[1])), quoted);
        } else {
            System.out.println("SentenceTest: without the document, so its words are not compared");
        }
        check.end();
    }

    private static void compare(Document document, List<Check.Words> quoted) {
        for (Check.Words one : quoted) {
            check.dueTrue(one + " stands there", document.has(one.section(), one.words()));
        }
        for (String section : Document.SECTIONS) {
            List<String> sentences = document.sentences(section);
            check.dueFalse(section + " is empty", sentences.isEmpty());
            for (String sentence : sentences) {
                check.dueTrue("a test for \"" + sentence + "\" (" + section + ")",
                    WITHOUT_TEST.contains(sentence) || isQuoted(section, sentence, quoted));
            }
        }
    }

    private static boolean isQuoted(String section, String sentence, List<Check.Words> quoted) {
        for (Check.Words one : quoted) {
            boolean touches = one.words().contains(sentence) || sentence.contains(one.words());
            if (one.section().equals(section) && touches) {
                return true;
            }
        }
        return false;
    }
}
