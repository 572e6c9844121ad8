import java.io.IOException;
import java.nio.file.Files;
import java.nio.file.Path;
import java.util.List;
import java.util.regex.Matcher;
import java.util.regex.Pattern;

/** Runs the tests of single sentences, and compares the sentences that they claim with the document. */
final class EdgesTest {
    private static final Path DOCUMENT = Path.of("../shared/DOC.md");
    private static final Pattern RANGE = Pattern.compile("- `.*(\\d to -?\\d|from 0).*");

    private EdgesTest() {
    }

    public static void main(String[] args) throws IOException {
        Checks checks = new Checks("EdgesTest");
        Edges edges = new Edges(checks);
        new EdgesOfTerms(edges).test();
        new EdgesOfChanges(edges).test();
        new EdgesOfQueries(edges).test();
        new EdgesOfPrograms(edges).test();
        new EdgesOfUndo(edges).test();
        new EdgesOfExceptions(edges).test();
        String[] sections = Files.readString(DOCUMENT).split("\n## Promise \\d+: ");
        comparePromises(checks, edges.claims(), sections);
        compareTerms(checks, edges.claims(), sections[Edges.TERMS]);
        checks.end();
    }

    /** What a test claims stands in the document, and each line on an exception or a range is claimed. */
    private static void comparePromises(Checks checks, List<Edges.Claim> claims, String[] sections) {
        checks.due("promises of the document", sections.length - 1, 46);
        for (Edges.Claim claim : claims) {
            checks.due("words of promise " + claim.promise() + ": " + claim.words(),
                    sections[claim.promise()].contains(claim.words()), true);
        }
        for (int promise = 1; promise < sections.length; promise++) {
            for (String line : sections[promise].split("\n")) {
                if (line.startsWith("Throws ") || RANGE.matcher(line).matches()) {
                    checks.due("a test of promise " + promise + ": " + line,
                            claims.contains(new Edges.Claim(promise, line)), true);
                }
            }
        }
    }

    private static void compareTerms(Checks checks, List<Edges.Claim> claims, String section) {
        String terms = section.substring(section.indexOf("## Terms"), section.indexOf("Ahead of the calls"));
        Matcher sentences = Pattern.compile("[A-Z][^\n]*?[.](?= [A-Z]|\n)").matcher(terms);
        while (sentences.find()) {
            String sentence = sentences.group();
            // The headings of the paragraphs are no sentences.
            if (!sentence.matches("[A-Z][a-z]+( together)?[.]")) {
                checks.due("a test of the terms: " + sentence, isClaimed(claims, sentence), true);
            }
        }
    }

    /** Whether a test claims the sentence, or tests share its words. */
    private static boolean isClaimed(List<Edges.Claim> claims, String sentence) {
        for (Edges.Claim claim : claims) {
            if (claim.promise() == Edges.TERMS && sentence.contains(claim.words())) {
                return true;
            }
        }
        return false;
    }
}
