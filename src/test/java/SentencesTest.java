import java.io.File;
import java.io.IOException;
import java.lang.reflect.Method;
import java.util.ArrayList;
import java.util.List;
import java.util.regex.Matcher;
import java.util.regex.Pattern;

/**
 * Every boundary test bears words that stand in the document where it says, and wherever the
 * document names a boundary there is a test that bears those words.
 */
public final class SentencesTest {
    private static final Due DUE = new Due("SentencesTest");
    private static final String TESTS = "src/test/java";
    private static final int PROMISES = 36;

    /** Words that name a boundary: refusals, limits, what is empty, full or first, and what wraps. */
    private static final Pattern BOUNDARY = Pattern.compile(
        "\\b(BAD|NULL|NOT|FULL|INDEX|CAST|STORE|SIZE|NONE|LOST)\\b"
        + "|\\b(at most|at least|up to|at first|at all|wrap|least|lowest|empty|ended|whole|whatever|perhaps|none)\\b"
        + "|\\b(before any|below 0|above 60|left over|as bits|as long as)\\b"
        + "|\\d+ (to|\\.\\.) \\d+");

    public static void main(String[] args) throws IOException, ClassNotFoundException {
        if (!Document.isThere()) {
            System.out.println("SentencesTest: ../shared/DOC.md is not there, nothing is asked");
            return;
        }
        Document document = new Document();
        List<Sentence> sentences = sentences();
        for (Sentence s : sentences) {
            DUE.holds("\"" + s.says() + "\" stands under " + s.under(), document.under(s.under()).contains(s.says()));
        }
        for (int promise = 1; promise <= PROMISES; promise++) {
            String begin = "Promise " + promise + ":";
            DUE.holds(begin + " has a test", sentences.stream().anyMatch(s -> s.under().startsWith(begin)));
        }
        for (String heading : document.headings()) {
            everyBoundaryIsBorne(heading, words(document, heading), sentences);
        }
        DUE.end();
    }

    private static List<Sentence> sentences() throws ClassNotFoundException {
        List<Sentence> found = new ArrayList<>();
        for (String file : new File(TESTS).list()) {
            if (file.endsWith("BoundaryTest.java")) {
                Class<?> tests = Class.forName(file.replace(".java", ""));
                for (Method test : Boundaries.testsOf(tests)) {
                    found.add(test.getAnnotation(Sentence.class));
                }
            }
        }
        return found;
    }

    /** Ahead of paragraph 1 stands the tale, which tells again in other words what stands behind it. */
    private static String words(Document document, String heading) {
        String words = document.under(heading);
        int tale = words.indexOf("======== 1");
        return heading.equals("Not promised") ? "" : tale < 0 ? words : words.substring(tale);
    }

    private static void everyBoundaryIsBorne(String heading, String words, List<Sentence> sentences) {
        boolean[] borne = new boolean[words.length()];
        for (Sentence s : sentences) {
            for (int at = words.indexOf(s.says()); s.under().equals(heading) && at >= 0; ) {
                for (int i = at; i < at + s.says().length(); i++) {
                    borne[i] = true;
                }
                at = words.indexOf(s.says(), at + 1);
            }
        }
        Matcher boundary = BOUNDARY.matcher(words);
        while (boundary.find()) {
            int from = Math.max(0, boundary.start() - 40);
            int to = Math.min(words.length(), boundary.end() + 20);
            DUE.holds("a test bears '" + boundary.group() + "' under " + heading + " in '.." + words.substring(from, to)
                + "..'", borne[boundary.start()] && borne[boundary.end() - 1]);
        }
    }
}
