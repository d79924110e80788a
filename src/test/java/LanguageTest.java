import java.io.IOException;
import java.nio.file.Files;
import java.nio.file.Path;
import java.util.regex.Matcher;
import java.util.regex.Pattern;

/** Those rules of LANGUAGE.md that can be read off the source as text. */
public final class LanguageTest {
    private static final Due DUE = new Due("LanguageTest");
    private static final String[] NEVER = {
        "\\b(throw|throws|try|catch|finally|synchronized|assert|native|volatile|transient|strictfp)\\b",
        "->", "::", "\\bpackage\\b", "Exact\\(", "\\bSystem\\.(?!arraycopy\\()", "\\bvar\\b", "\\.equals\\(",
        "\\bhashCode\\b", "\\btoString\\b", "\\bstatic \\{", "\\bprotected\\b", "while \\(true\\)", "for \\(;;"};

    public static void main(String[] args) throws IOException {
        String source = Files.readString(Path.of("src/main/java/GorseGold.java"));
        String code = source.replaceAll("(?s)/\\*.*?\\*/", "").replaceAll("//[^\n]*", "");
        for (String never : NEVER) {
            Matcher found = Pattern.compile(never).matcher(code);
            DUE.holds("no " + never, !found.find());
        }
        DUE.is("imports", count("(?m)^import ", code), count("(?m)^import java\\.util\\.Arrays;", code));
        DUE.is("signs beyond 126", source.chars().filter(c -> c > 126).count(), 0);
        DUE.holds("some twelve classes", count("\\bclass \\w+", code) <= 13);
        DUE.is("static fields that are not final", count("(?m)^ +(private|public) static (?!final)[^(]*[=;]", code), 0);
        methodsAreShort(code);
        DUE.end();
    }

    private static int count(String pattern, String code) {
        return (int) Pattern.compile(pattern).matcher(code).results().count();
    }

    private static void methodsAreShort(String code) {
        Matcher method = Pattern.compile("(?m)^( {4}| {8})(?:\\w+(?:\\[\\])? )+(\\w+)\\(([^)]*)\\) \\{$").matcher(code);
        while (method.find()) {
            int end = code.indexOf("\n" + method.group(1) + "}", method.end());
            int lines = (int) code.substring(method.start(), end).lines().count();
            DUE.holds(method.group(2) + " has " + lines + " lines", lines <= 60);
            DUE.holds(method.group(2) + " takes seven at most", method.group(3).split(",").length <= 7);
        }
    }
}
